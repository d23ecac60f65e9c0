section
/-! the tables' words (the skeleton's PART A), and the words that methods carry: those of the tables that a callee keeps -/
-- ===== PART A: goes FIRST, ahead of the names: the tables' words, and 'selects' of the private methods out of them =====
/-- a private method of a class that the tables say can be made, by its rows of tables_1 -/
def lw_okq (q : MethodName × Nat) : Prop := (q.1.cls ≠ "java/lang/invoke/MethodHandle" ∧ q.1.cls ≠ "java/lang/invoke/VarHandle") ∧ Cond.instantiable q.1.cls q.2 ∈ tables_1 ∧ Cond.privateMethod q.1 ∈ tables_1 ∧ Cond.instanceMethod q.1 ∈ tables_1
theorem lw_p0 : lw_okq (⟨"VotedFrames", "isNode", "(I)Z"⟩, 12) := ⟨⟨by decide +kernel, by decide +kernel⟩, List.mem_of_getElem? (i := 10) (by decide +kernel), List.mem_of_getElem? (i := 218) (by decide +kernel), List.mem_of_getElem? (i := 219) (by decide +kernel)⟩
theorem lw_p1 : lw_okq (⟨"VotedFrames", "fitsInstruction", "(II)Z"⟩, 12) := ⟨⟨by decide +kernel, by decide +kernel⟩, List.mem_of_getElem? (i := 10) (by decide +kernel), List.mem_of_getElem? (i := 244) (by decide +kernel), List.mem_of_getElem? (i := 245) (by decide +kernel)⟩
theorem lw_p2 : lw_okq (⟨"VotedFrames", "runFrame", "()I"⟩, 12) := ⟨⟨by decide +kernel, by decide +kernel⟩, List.mem_of_getElem? (i := 10) (by decide +kernel), List.mem_of_getElem? (i := 268) (by decide +kernel), List.mem_of_getElem? (i := 269) (by decide +kernel)⟩
theorem lw_p3 : lw_okq (⟨"VotedFrames", "openLines", "()V"⟩, 12) := ⟨⟨by decide +kernel, by decide +kernel⟩, List.mem_of_getElem? (i := 10) (by decide +kernel), List.mem_of_getElem? (i := 272) (by decide +kernel), List.mem_of_getElem? (i := 273) (by decide +kernel)⟩
theorem lw_p4 : lw_okq (⟨"VotedFrames", "agreeOnSensors", "()V"⟩, 12) := ⟨⟨by decide +kernel, by decide +kernel⟩, List.mem_of_getElem? (i := 10) (by decide +kernel), List.mem_of_getElem? (i := 304) (by decide +kernel), List.mem_of_getElem? (i := 305) (by decide +kernel)⟩
theorem lw_p5 : lw_okq (⟨"VotedFrames$Relay", "send", "(IIIII)V"⟩, 8) := ⟨⟨by decide +kernel, by decide +kernel⟩, List.mem_of_getElem? (i := 100) (by decide +kernel), List.mem_of_getElem? (i := 312) (by decide +kernel), List.mem_of_getElem? (i := 313) (by decide +kernel)⟩
theorem lw_p6 : lw_okq (⟨"VotedFrames$Relay", "placeOf", "(II)I"⟩, 8) := ⟨⟨by decide +kernel, by decide +kernel⟩, List.mem_of_getElem? (i := 100) (by decide +kernel), List.mem_of_getElem? (i := 317) (by decide +kernel), List.mem_of_getElem? (i := 318) (by decide +kernel)⟩
theorem lw_p7 : lw_okq (⟨"VotedFrames$Relay", "got", "(III)I"⟩, 8) := ⟨⟨by decide +kernel, by decide +kernel⟩, List.mem_of_getElem? (i := 100) (by decide +kernel), List.mem_of_getElem? (i := 321) (by decide +kernel), List.mem_of_getElem? (i := 322) (by decide +kernel)⟩
theorem lw_p8 : lw_okq (⟨"VotedFrames$Relay", "follow", "(II)I"⟩, 8) := ⟨⟨by decide +kernel, by decide +kernel⟩, List.mem_of_getElem? (i := 100) (by decide +kernel), List.mem_of_getElem? (i := 329) (by decide +kernel), List.mem_of_getElem? (i := 330) (by decide +kernel)⟩
theorem lw_p9 : lw_okq (⟨"VotedFrames$Relay", "make", "(LVotedFrames$Node;III)I"⟩, 8) := ⟨⟨by decide +kernel, by decide +kernel⟩, List.mem_of_getElem? (i := 100) (by decide +kernel), List.mem_of_getElem? (i := 337) (by decide +kernel), List.mem_of_getElem? (i := 338) (by decide +kernel)⟩
theorem lw_p10 : lw_okq (⟨"VotedFrames", "runDueTasks", "()V"⟩, 12) := ⟨⟨by decide +kernel, by decide +kernel⟩, List.mem_of_getElem? (i := 10) (by decide +kernel), List.mem_of_getElem? (i := 344) (by decide +kernel), List.mem_of_getElem? (i := 345) (by decide +kernel)⟩
theorem lw_p11 : lw_okq (⟨"VotedFrames", "leastCorrect", "()I"⟩, 12) := ⟨⟨by decide +kernel, by decide +kernel⟩, List.mem_of_getElem? (i := 10) (by decide +kernel), List.mem_of_getElem? (i := 348) (by decide +kernel), List.mem_of_getElem? (i := 349) (by decide +kernel)⟩
theorem lw_p12 : lw_okq (⟨"VotedFrames", "runOnAllNodes", "(I)V"⟩, 12) := ⟨⟨by decide +kernel, by decide +kernel⟩, List.mem_of_getElem? (i := 10) (by decide +kernel), List.mem_of_getElem? (i := 356) (by decide +kernel), List.mem_of_getElem? (i := 357) (by decide +kernel)⟩
theorem lw_p13 : lw_okq (⟨"VotedFrames$StackMachine", "refusalOf", "(I)I"⟩, 2) := ⟨⟨by decide +kernel, by decide +kernel⟩, List.mem_of_getElem? (i := 164) (by decide +kernel), List.mem_of_getElem? (i := 364) (by decide +kernel), List.mem_of_getElem? (i := 365) (by decide +kernel)⟩
theorem lw_p14 : lw_okq (⟨"VotedFrames$StackMachine", "pop", "()I"⟩, 2) := ⟨⟨by decide +kernel, by decide +kernel⟩, List.mem_of_getElem? (i := 164) (by decide +kernel), List.mem_of_getElem? (i := 374) (by decide +kernel), List.mem_of_getElem? (i := 375) (by decide +kernel)⟩
theorem lw_p15 : lw_okq (⟨"VotedFrames$StackMachine", "push", "(I)V"⟩, 2) := ⟨⟨by decide +kernel, by decide +kernel⟩, List.mem_of_getElem? (i := 164) (by decide +kernel), List.mem_of_getElem? (i := 384) (by decide +kernel), List.mem_of_getElem? (i := 385) (by decide +kernel)⟩
def lw_privs_1 : List (MethodName × Nat) := [(⟨"VotedFrames", "isNode", "(I)Z"⟩, 12), (⟨"VotedFrames", "fitsInstruction", "(II)Z"⟩, 12), (⟨"VotedFrames", "runFrame", "()I"⟩, 12), (⟨"VotedFrames", "openLines", "()V"⟩, 12), (⟨"VotedFrames", "agreeOnSensors", "()V"⟩, 12), (⟨"VotedFrames$Relay", "send", "(IIIII)V"⟩, 8), (⟨"VotedFrames$Relay", "placeOf", "(II)I"⟩, 8), (⟨"VotedFrames$Relay", "got", "(III)I"⟩, 8), (⟨"VotedFrames$Relay", "follow", "(II)I"⟩, 8), (⟨"VotedFrames$Relay", "make", "(LVotedFrames$Node;III)I"⟩, 8), (⟨"VotedFrames", "runDueTasks", "()V"⟩, 12), (⟨"VotedFrames", "leastCorrect", "()I"⟩, 12), (⟨"VotedFrames", "runOnAllNodes", "(I)V"⟩, 12), (⟨"VotedFrames$StackMachine", "refusalOf", "(I)I"⟩, 2), (⟨"VotedFrames$StackMachine", "pop", "()I"⟩, 2), (⟨"VotedFrames$StackMachine", "push", "(I)V"⟩, 2)]
theorem lw_r1 : ∀ q ∈ lw_privs_1, lw_okq q := List.forall_mem_cons.mpr ⟨lw_p0, List.forall_mem_cons.mpr ⟨lw_p1, List.forall_mem_cons.mpr ⟨lw_p2, List.forall_mem_cons.mpr ⟨lw_p3, List.forall_mem_cons.mpr ⟨lw_p4, List.forall_mem_cons.mpr ⟨lw_p5, List.forall_mem_cons.mpr ⟨lw_p6, List.forall_mem_cons.mpr ⟨lw_p7, List.forall_mem_cons.mpr ⟨lw_p8, List.forall_mem_cons.mpr ⟨lw_p9, List.forall_mem_cons.mpr ⟨lw_p10, List.forall_mem_cons.mpr ⟨lw_p11, List.forall_mem_cons.mpr ⟨lw_p12, List.forall_mem_cons.mpr ⟨lw_p13, List.forall_mem_cons.mpr ⟨lw_p14, List.forall_mem_cons.mpr ⟨lw_p15, fun _ h => absurd h List.not_mem_nil⟩⟩⟩⟩⟩⟩⟩⟩⟩⟩⟩⟩⟩⟩⟩⟩
theorem lw_p16 : lw_okq (⟨"VotedFrames$StackMachine", "fetch", "(II[I[I)I"⟩, 2) := ⟨⟨by decide +kernel, by decide +kernel⟩, List.mem_of_getElem? (i := 164) (by decide +kernel), List.mem_of_getElem? (i := 388) (by decide +kernel), List.mem_of_getElem? (i := 389) (by decide +kernel)⟩
theorem lw_p17 : lw_okq (⟨"VotedFrames", "vote", "(LVotedFrames$Node;I)V"⟩, 12) := ⟨⟨by decide +kernel, by decide +kernel⟩, List.mem_of_getElem? (i := 10) (by decide +kernel), List.mem_of_getElem? (i := 392) (by decide +kernel), List.mem_of_getElem? (i := 393) (by decide +kernel)⟩
theorem lw_p18 : lw_okq (⟨"VotedFrames", "fillBallot", "(LVotedFrames$Node;)I"⟩, 12) := ⟨⟨by decide +kernel, by decide +kernel⟩, List.mem_of_getElem? (i := 10) (by decide +kernel), List.mem_of_getElem? (i := 396) (by decide +kernel), List.mem_of_getElem? (i := 397) (by decide +kernel)⟩
theorem lw_p19 : lw_okq (⟨"VotedFrames", "dissentersFrom", "(ILVotedFrames$Node;)I"⟩, 12) := ⟨⟨by decide +kernel, by decide +kernel⟩, List.mem_of_getElem? (i := 10) (by decide +kernel), List.mem_of_getElem? (i := 404) (by decide +kernel), List.mem_of_getElem? (i := 405) (by decide +kernel)⟩
theorem lw_p20 : lw_okq (⟨"VotedFrames", "agreeOnAccused", "()V"⟩, 12) := ⟨⟨by decide +kernel, by decide +kernel⟩, List.mem_of_getElem? (i := 10) (by decide +kernel), List.mem_of_getElem? (i := 408) (by decide +kernel), List.mem_of_getElem? (i := 409) (by decide +kernel)⟩
theorem lw_p21 : lw_okq (⟨"VotedFrames", "strikeOut", "()I"⟩, 12) := ⟨⟨by decide +kernel, by decide +kernel⟩, List.mem_of_getElem? (i := 10) (by decide +kernel), List.mem_of_getElem? (i := 412) (by decide +kernel), List.mem_of_getElem? (i := 413) (by decide +kernel)⟩
theorem lw_p22 : lw_okq (⟨"VotedFrames", "convictedBy", "(LVotedFrames$Node;)I"⟩, 12) := ⟨⟨by decide +kernel, by decide +kernel⟩, List.mem_of_getElem? (i := 10) (by decide +kernel), List.mem_of_getElem? (i := 416) (by decide +kernel), List.mem_of_getElem? (i := 417) (by decide +kernel)⟩
theorem lw_p23 : lw_okq (⟨"VotedFrames", "correctClocks", "()V"⟩, 12) := ⟨⟨by decide +kernel, by decide +kernel⟩, List.mem_of_getElem? (i := 10) (by decide +kernel), List.mem_of_getElem? (i := 426) (by decide +kernel), List.mem_of_getElem? (i := 427) (by decide +kernel)⟩
theorem lw_p24 : lw_okq (⟨"VotedFrames", "correctionFor", "(LVotedFrames$Node;)I"⟩, 12) := ⟨⟨by decide +kernel, by decide +kernel⟩, List.mem_of_getElem? (i := 10) (by decide +kernel), List.mem_of_getElem? (i := 430) (by decide +kernel), List.mem_of_getElem? (i := 431) (by decide +kernel)⟩
theorem lw_p25 : lw_okq (⟨"VotedFramesModel", "node", "(I)Z"⟩, 27) := ⟨⟨by decide +kernel, by decide +kernel⟩, List.mem_of_getElem? (i := 502) (by decide +kernel), List.mem_of_getElem? (i := 594) (by decide +kernel), List.mem_of_getElem? (i := 595) (by decide +kernel)⟩
theorem lw_p26 : lw_okq (⟨"VotedFramesModel", "one", "()V"⟩, 27) := ⟨⟨by decide +kernel, by decide +kernel⟩, List.mem_of_getElem? (i := 502) (by decide +kernel), List.mem_of_getElem? (i := 629) (by decide +kernel), List.mem_of_getElem? (i := 630) (by decide +kernel)⟩
theorem lw_p27 : lw_okq (⟨"VotedFramesModel", "agrees", "(III)I"⟩, 27) := ⟨⟨by decide +kernel, by decide +kernel⟩, List.mem_of_getElem? (i := 502) (by decide +kernel), List.mem_of_getElem? (i := 633) (by decide +kernel), List.mem_of_getElem? (i := 634) (by decide +kernel)⟩
theorem lw_p28 : lw_okq (⟨"VotedFramesModel", "member", "(II)Z"⟩, 27) := ⟨⟨by decide +kernel, by decide +kernel⟩, List.mem_of_getElem? (i := 502) (by decide +kernel), List.mem_of_getElem? (i := 637) (by decide +kernel), List.mem_of_getElem? (i := 638) (by decide +kernel)⟩
theorem lw_p29 : lw_okq (⟨"VotedFramesModel", "makesOfOne", "(III)I"⟩, 27) := ⟨⟨by decide +kernel, by decide +kernel⟩, List.mem_of_getElem? (i := 502) (by decide +kernel), List.mem_of_getElem? (i := 641) (by decide +kernel), List.mem_of_getElem? (i := 642) (by decide +kernel)⟩
theorem lw_p30 : lw_okq (⟨"VotedFramesModel", "holds", "(IIIII)I"⟩, 27) := ⟨⟨by decide +kernel, by decide +kernel⟩, List.mem_of_getElem? (i := 502) (by decide +kernel), List.mem_of_getElem? (i := 645) (by decide +kernel), List.mem_of_getElem? (i := 646) (by decide +kernel)⟩
theorem lw_p31 : lw_okq (⟨"VotedFramesModel", "sent", "(III)I"⟩, 27) := ⟨⟨by decide +kernel, by decide +kernel⟩, List.mem_of_getElem? (i := 502) (by decide +kernel), List.mem_of_getElem? (i := 649) (by decide +kernel), List.mem_of_getElem? (i := 650) (by decide +kernel)⟩
def lw_privs_2 : List (MethodName × Nat) := [(⟨"VotedFrames$StackMachine", "fetch", "(II[I[I)I"⟩, 2), (⟨"VotedFrames", "vote", "(LVotedFrames$Node;I)V"⟩, 12), (⟨"VotedFrames", "fillBallot", "(LVotedFrames$Node;)I"⟩, 12), (⟨"VotedFrames", "dissentersFrom", "(ILVotedFrames$Node;)I"⟩, 12), (⟨"VotedFrames", "agreeOnAccused", "()V"⟩, 12), (⟨"VotedFrames", "strikeOut", "()I"⟩, 12), (⟨"VotedFrames", "convictedBy", "(LVotedFrames$Node;)I"⟩, 12), (⟨"VotedFrames", "correctClocks", "()V"⟩, 12), (⟨"VotedFrames", "correctionFor", "(LVotedFrames$Node;)I"⟩, 12), (⟨"VotedFramesModel", "node", "(I)Z"⟩, 27), (⟨"VotedFramesModel", "one", "()V"⟩, 27), (⟨"VotedFramesModel", "agrees", "(III)I"⟩, 27), (⟨"VotedFramesModel", "member", "(II)Z"⟩, 27), (⟨"VotedFramesModel", "makesOfOne", "(III)I"⟩, 27), (⟨"VotedFramesModel", "holds", "(IIIII)I"⟩, 27), (⟨"VotedFramesModel", "sent", "(III)I"⟩, 27)]
theorem lw_r2 : ∀ q ∈ lw_privs_2, lw_okq q := List.forall_mem_cons.mpr ⟨lw_p16, List.forall_mem_cons.mpr ⟨lw_p17, List.forall_mem_cons.mpr ⟨lw_p18, List.forall_mem_cons.mpr ⟨lw_p19, List.forall_mem_cons.mpr ⟨lw_p20, List.forall_mem_cons.mpr ⟨lw_p21, List.forall_mem_cons.mpr ⟨lw_p22, List.forall_mem_cons.mpr ⟨lw_p23, List.forall_mem_cons.mpr ⟨lw_p24, List.forall_mem_cons.mpr ⟨lw_p25, List.forall_mem_cons.mpr ⟨lw_p26, List.forall_mem_cons.mpr ⟨lw_p27, List.forall_mem_cons.mpr ⟨lw_p28, List.forall_mem_cons.mpr ⟨lw_p29, List.forall_mem_cons.mpr ⟨lw_p30, List.forall_mem_cons.mpr ⟨lw_p31, fun _ h => absurd h List.not_mem_nil⟩⟩⟩⟩⟩⟩⟩⟩⟩⟩⟩⟩⟩⟩⟩⟩
theorem lw_p32 : lw_okq (⟨"VotedFramesModel", "through", "(II)Z"⟩, 27) := ⟨⟨by decide +kernel, by decide +kernel⟩, List.mem_of_getElem? (i := 502) (by decide +kernel), List.mem_of_getElem? (i := 653) (by decide +kernel), List.mem_of_getElem? (i := 654) (by decide +kernel)⟩
theorem lw_p33 : lw_okq (⟨"VotedFramesModel", "says", "(III)I"⟩, 27) := ⟨⟨by decide +kernel, by decide +kernel⟩, List.mem_of_getElem? (i := 502) (by decide +kernel), List.mem_of_getElem? (i := 657) (by decide +kernel), List.mem_of_getElem? (i := 658) (by decide +kernel)⟩
theorem lw_p34 : lw_okq (⟨"VotedFramesModel", "size", "(I)I"⟩, 27) := ⟨⟨by decide +kernel, by decide +kernel⟩, List.mem_of_getElem? (i := 502) (by decide +kernel), List.mem_of_getElem? (i := 665) (by decide +kernel), List.mem_of_getElem? (i := 666) (by decide +kernel)⟩
theorem lw_p35 : lw_okq (⟨"VotedFramesModel", "makesOfTwo", "(IIII)I"⟩, 27) := ⟨⟨by decide +kernel, by decide +kernel⟩, List.mem_of_getElem? (i := 502) (by decide +kernel), List.mem_of_getElem? (i := 669) (by decide +kernel), List.mem_of_getElem? (i := 670) (by decide +kernel)⟩
theorem lw_p36 : lw_okq (⟨"VotedFramesModel", "majority", "(II)I"⟩, 27) := ⟨⟨by decide +kernel, by decide +kernel⟩, List.mem_of_getElem? (i := 502) (by decide +kernel), List.mem_of_getElem? (i := 673) (by decide +kernel), List.mem_of_getElem? (i := 674) (by decide +kernel)⟩
theorem lw_p37 : lw_okq (⟨"VotedFramesModel", "tasks", "()V"⟩, 27) := ⟨⟨by decide +kernel, by decide +kernel⟩, List.mem_of_getElem? (i := 502) (by decide +kernel), List.mem_of_getElem? (i := 677) (by decide +kernel), List.mem_of_getElem? (i := 678) (by decide +kernel)⟩
theorem lw_p38 : lw_okq (⟨"VotedFramesModel", "isDue", "(I)Z"⟩, 27) := ⟨⟨by decide +kernel, by decide +kernel⟩, List.mem_of_getElem? (i := 502) (by decide +kernel), List.mem_of_getElem? (i := 681) (by decide +kernel), List.mem_of_getElem? (i := 682) (by decide +kernel)⟩
theorem lw_p39 : lw_okq (⟨"VotedFramesModel", "play", "(III)I"⟩, 27) := ⟨⟨by decide +kernel, by decide +kernel⟩, List.mem_of_getElem? (i := 502) (by decide +kernel), List.mem_of_getElem? (i := 685) (by decide +kernel), List.mem_of_getElem? (i := 686) (by decide +kernel)⟩
theorem lw_p40 : lw_okq (⟨"VotedFramesModel", "push", "(I)V"⟩, 27) := ⟨⟨by decide +kernel, by decide +kernel⟩, List.mem_of_getElem? (i := 502) (by decide +kernel), List.mem_of_getElem? (i := 698) (by decide +kernel), List.mem_of_getElem? (i := 699) (by decide +kernel)⟩
theorem lw_p41 : lw_okq (⟨"VotedFramesModel", "vote", "(II)V"⟩, 27) := ⟨⟨by decide +kernel, by decide +kernel⟩, List.mem_of_getElem? (i := 502) (by decide +kernel), List.mem_of_getElem? (i := 702) (by decide +kernel), List.mem_of_getElem? (i := 703) (by decide +kernel)⟩
theorem lw_p42 : lw_okq (⟨"VotedFramesModel", "strike", "(I)V"⟩, 27) := ⟨⟨by decide +kernel, by decide +kernel⟩, List.mem_of_getElem? (i := 502) (by decide +kernel), List.mem_of_getElem? (i := 706) (by decide +kernel), List.mem_of_getElem? (i := 707) (by decide +kernel)⟩
theorem lw_p43 : lw_okq (⟨"VotedFramesModel", "mean", "(I)I"⟩, 27) := ⟨⟨by decide +kernel, by decide +kernel⟩, List.mem_of_getElem? (i := 502) (by decide +kernel), List.mem_of_getElem? (i := 710) (by decide +kernel), List.mem_of_getElem? (i := 711) (by decide +kernel)⟩
theorem lw_p44 : lw_okq (⟨"VotedFramesModel", "shows", "(II)I"⟩, 27) := ⟨⟨by decide +kernel, by decide +kernel⟩, List.mem_of_getElem? (i := 502) (by decide +kernel), List.mem_of_getElem? (i := 714) (by decide +kernel), List.mem_of_getElem? (i := 715) (by decide +kernel)⟩
theorem lw_p45 : lw_okq (⟨"VotedFramesModel", "twins", "(II)Z"⟩, 27) := ⟨⟨by decide +kernel, by decide +kernel⟩, List.mem_of_getElem? (i := 502) (by decide +kernel), List.mem_of_getElem? (i := 759) (by decide +kernel), List.mem_of_getElem? (i := 760) (by decide +kernel)⟩
def lw_privs_3 : List (MethodName × Nat) := [(⟨"VotedFramesModel", "through", "(II)Z"⟩, 27), (⟨"VotedFramesModel", "says", "(III)I"⟩, 27), (⟨"VotedFramesModel", "size", "(I)I"⟩, 27), (⟨"VotedFramesModel", "makesOfTwo", "(IIII)I"⟩, 27), (⟨"VotedFramesModel", "majority", "(II)I"⟩, 27), (⟨"VotedFramesModel", "tasks", "()V"⟩, 27), (⟨"VotedFramesModel", "isDue", "(I)Z"⟩, 27), (⟨"VotedFramesModel", "play", "(III)I"⟩, 27), (⟨"VotedFramesModel", "push", "(I)V"⟩, 27), (⟨"VotedFramesModel", "vote", "(II)V"⟩, 27), (⟨"VotedFramesModel", "strike", "(I)V"⟩, 27), (⟨"VotedFramesModel", "mean", "(I)I"⟩, 27), (⟨"VotedFramesModel", "shows", "(II)I"⟩, 27), (⟨"VotedFramesModel", "twins", "(II)Z"⟩, 27)]
theorem lw_r3 : ∀ q ∈ lw_privs_3, lw_okq q := List.forall_mem_cons.mpr ⟨lw_p32, List.forall_mem_cons.mpr ⟨lw_p33, List.forall_mem_cons.mpr ⟨lw_p34, List.forall_mem_cons.mpr ⟨lw_p35, List.forall_mem_cons.mpr ⟨lw_p36, List.forall_mem_cons.mpr ⟨lw_p37, List.forall_mem_cons.mpr ⟨lw_p38, List.forall_mem_cons.mpr ⟨lw_p39, List.forall_mem_cons.mpr ⟨lw_p40, List.forall_mem_cons.mpr ⟨lw_p41, List.forall_mem_cons.mpr ⟨lw_p42, List.forall_mem_cons.mpr ⟨lw_p43, List.forall_mem_cons.mpr ⟨lw_p44, List.forall_mem_cons.mpr ⟨lw_p45, fun _ h => absurd h List.not_mem_nil⟩⟩⟩⟩⟩⟩⟩⟩⟩⟩⟩⟩⟩⟩
def lw_privs : List (MethodName × Nat) := lw_privs_1 ++ (lw_privs_2 ++ (lw_privs_3))
def lw_tbl : List Cond := k2_sels lw_privs ++ tables_1
theorem lw_privs_ok : ∀ q ∈ lw_privs, lw_okq q := by
  show ∀ q ∈ lw_privs_1 ++ (lw_privs_2 ++ (lw_privs_3)), lw_okq q
  exact List.forall_mem_append.mpr ⟨lw_r1, List.forall_mem_append.mpr ⟨lw_r2, lw_r3⟩⟩
def qa_T : List Cond := lw_tbl.filter (fun w => k2_isCode w || goodWord w)
theorem qa_m0 {w : Cond} (i : Nat) (h : (k2_sels lw_privs)[i]? = some w) (hg : (k2_isCode w || goodWord w) = true) : w ∈ qa_T := List.mem_filter.mpr ⟨List.mem_append_left _ (List.mem_of_getElem? h), hg⟩
theorem qa_m1 {w : Cond} (i : Nat) (h : tables_1_1[i]? = some w) (hg : (k2_isCode w || goodWord w) = true) : w ∈ qa_T := List.mem_filter.mpr ⟨List.mem_append_right _ (show w ∈ tables_1 from List.mem_append_left _ (List.mem_of_getElem? h)), hg⟩
theorem qa_m2 {w : Cond} (i : Nat) (h : tables_1_2[i]? = some w) (hg : (k2_isCode w || goodWord w) = true) : w ∈ qa_T := List.mem_filter.mpr ⟨List.mem_append_right _ (show w ∈ tables_1 from List.mem_append_right _ (List.mem_append_left _ (List.mem_of_getElem? h))), hg⟩
theorem qa_m3 {w : Cond} (i : Nat) (h : tables_1_3[i]? = some w) (hg : (k2_isCode w || goodWord w) = true) : w ∈ qa_T := List.mem_filter.mpr ⟨List.mem_append_right _ (show w ∈ tables_1 from List.mem_append_right _ (List.mem_append_right _ (List.mem_append_left _ (List.mem_of_getElem? h)))), hg⟩
theorem qa_m4 {w : Cond} (i : Nat) (h : tables_1_4[i]? = some w) (hg : (k2_isCode w || goodWord w) = true) : w ∈ qa_T := List.mem_filter.mpr ⟨List.mem_append_right _ (show w ∈ tables_1 from List.mem_append_right _ (List.mem_append_right _ (List.mem_append_right _ (List.mem_of_getElem? h)))), hg⟩
def qa_Nw : List Cond := [.methodLinkNest "VotedFrames" 171 ⟨"VotedFrames$Task", "<init>", "()V"⟩ "VotedFrames", .methodLinkNest "VotedFrames" 54 ⟨"VotedFrames$StackMachine", "<init>", "()V"⟩ "VotedFrames", .methodLinkNest "VotedFrames$Node" 53 ⟨"VotedFrames", "contains", "(II)Z"⟩ "VotedFrames", .methodLinkNest "VotedFrames$Node" 60 ⟨"VotedFrames", "isAtMost", "(II)Z"⟩ "VotedFrames", .methodLinkNest "VotedFrames$Relay" 57 ⟨"VotedFrames", "contains", "(II)Z"⟩ "VotedFrames", .methodLinkNest "VotedFrames$Relay" 86 ⟨"VotedFrames", "majorityPlace", "([III)I"⟩ "VotedFrames"]
theorem qa_Nw_tabs : ∀ w ∈ qa_Nw, w.onTables = true := by
  intro w hw
  simp only [qa_Nw, List.mem_cons, List.not_mem_nil, or_false] at hw
  rcases hw with rfl | rfl | rfl | rfl | rfl | rfl <;> rfl
theorem qa_Nw_moved {s U : State} (hW : s.WarmedH U.vm) : ∀ w ∈ qa_Nw, va_Nw w s → va_Nw w U := by
  intro w hw h
  simp only [qa_Nw, List.mem_cons, List.not_mem_nil, or_false] at hw
  rcases hw with rfl | rfl | rfl | rfl | rfl | rfl <;> exact va_Nw.warmM hW h
theorem qa_Nw_in : ∀ w ∈ qa_Nw, w ∈ lw_tbl := by
  intro w hw
  simp only [qa_Nw, List.mem_cons, List.not_mem_nil, or_false] at hw
  rcases hw with rfl | rfl | rfl | rfl | rfl | rfl
  · exact List.mem_append_right _ (show _ ∈ tables_1 from List.mem_append_left _ (List.mem_of_getElem? (i := 138) (by decide +kernel)))
  · exact List.mem_append_right _ (show _ ∈ tables_1 from List.mem_append_left _ (List.mem_of_getElem? (i := 165) (by decide +kernel)))
  · exact List.mem_append_right _ (show _ ∈ tables_1 from List.mem_append_right _ (List.mem_append_left _ (List.mem_of_getElem? (i := 39) (by decide +kernel))))
  · exact List.mem_append_right _ (show _ ∈ tables_1 from List.mem_append_right _ (List.mem_append_left _ (List.mem_of_getElem? (i := 42) (by decide +kernel))))
  · exact List.mem_append_right _ (show _ ∈ tables_1 from List.mem_append_right _ (List.mem_append_left _ (List.mem_of_getElem? (i := 75) (by decide +kernel))))
  · exact List.mem_append_right _ (show _ ∈ tables_1 from List.mem_append_right _ (List.mem_append_left _ (List.mem_of_getElem? (i := 100) (by decide +kernel))))
def R_VF : String := "VotedFrames"
def F_VF : u_T := fun k => match k with
  | 0 => ("VotedFrames", "nodeCount", "I", true)
  | 1 => ("VotedFrames", "faultsBorne", "I", true)
  | 2 => ("VotedFrames", "delta", "I", true)
  | 3 => ("VotedFrames", "nodes", "[LVotedFrames$Node;", true)
  | 4 => ("VotedFrames", "relay", "LVotedFrames$Relay;", true)
  | 5 => ("VotedFrames", "tasks", "[LVotedFrames$Task;", true)
  | 6 => ("VotedFrames", "stackMachine", "LVotedFrames$StackMachine;", true)
  | 7 => ("VotedFrames", "singleWords", "[I", true)
  | 8 => ("VotedFrames", "noInputs", "[I", true)
  | 9 => ("VotedFrames", "results", "[I", true)
  | 10 => ("VotedFrames", "ballot", "[I", true)
  | _ => ("VotedFrames", "framesRun", "I", false)
def t_VF : Nat → FieldType := fun k => match k with
  | 0 => .int
  | 1 => .int
  | 2 => .int
  | 3 => .array (.object "VotedFrames$Node")
  | 4 => .object "VotedFrames$Relay"
  | 5 => .array (.object "VotedFrames$Task")
  | 6 => .object "VotedFrames$StackMachine"
  | 7 => .array .int
  | 8 => .array .int
  | 9 => .array .int
  | 10 => .array .int
  | _ => .int
theorem n_VF : ∀ a, a < 12 → ∀ b, b < 12 → a ≠ b → (F_VF a).2.1 ≠ (F_VF b).2.1 := by decide +kernel
theorem t_VF_ok : ∀ k, k < 12 → parseFieldDescriptor (F_VF k).2.2.1 = some (t_VF k) := by decide +kernel
theorem in_VF : ∀ w ∈ u_ws R_VF F_VF 12, w ∈ qa_T := by
  intro w hw
  obtain ⟨k, hk, rfl⟩ := List.mem_map.mp hw
  have hk := List.mem_range.mp hk
  rcases (show k = 0 ∨ k = 1 ∨ k = 2 ∨ k = 3 ∨ k = 4 ∨ k = 5 ∨ k = 6 ∨ k = 7 ∨ k = 8 ∨ k = 9 ∨ k = 10 ∨ k = 11 by omega) with rfl | rfl | rfl | rfl | rfl | rfl | rfl | rfl | rfl | rfl | rfl | rfl
  · exact qa_m1 188 (by decide +kernel) rfl
  · exact qa_m1 190 (by decide +kernel) rfl
  · exact qa_m1 192 (by decide +kernel) rfl
  · exact qa_m1 194 (by decide +kernel) rfl
  · exact qa_m1 196 (by decide +kernel) rfl
  · exact qa_m1 198 (by decide +kernel) rfl
  · exact qa_m1 200 (by decide +kernel) rfl
  · exact qa_m1 202 (by decide +kernel) rfl
  · exact qa_m1 204 (by decide +kernel) rfl
  · exact qa_m1 206 (by decide +kernel) rfl
  · exact qa_m1 208 (by decide +kernel) rfl
  · exact qa_m1 210 (by decide +kernel) rfl
def R_ND : String := "VotedFrames$Node"
def F_ND : u_T := fun k => match k with
  | 0 => ("VotedFrames$Node", "number", "I", true)
  | 1 => ("VotedFrames$Node", "delayFrom", "[I", true)
  | 2 => ("VotedFrames$Node", "errorFrom", "[I", true)
  | 3 => ("VotedFrames$Node", "inputs", "[I", true)
  | 4 => ("VotedFrames$Node", "charges", "[I", true)
  | 5 => ("VotedFrames$Node", "words", "[I", true)
  | 6 => ("VotedFrames$Node", "time", "I", false)
  | 7 => ("VotedFrames$Node", "drift", "I", false)
  | 8 => ("VotedFrames$Node", "sensed", "I", false)
  | 9 => ("VotedFrames$Node", "kind", "I", false)
  | 10 => ("VotedFrames$Node", "x", "I", false)
  | 11 => ("VotedFrames$Node", "memberSet", "I", false)
  | 12 => ("VotedFrames$Node", "heardSet", "I", false)
  | 13 => ("VotedFrames$Node", "accusedSet", "I", false)
  | _ => ("VotedFrames$Node", "latestCorrection", "I", false)
def t_ND : Nat → FieldType := fun k => match k with
  | 0 => .int
  | 1 => .array .int
  | 2 => .array .int
  | 3 => .array .int
  | 4 => .array .int
  | 5 => .array .int
  | 6 => .int
  | 7 => .int
  | 8 => .int
  | 9 => .int
  | 10 => .int
  | 11 => .int
  | 12 => .int
  | 13 => .int
  | _ => .int
theorem n_ND : ∀ a, a < 15 → ∀ b, b < 15 → a ≠ b → (F_ND a).2.1 ≠ (F_ND b).2.1 := by decide +kernel
theorem t_ND_ok : ∀ k, k < 15 → parseFieldDescriptor (F_ND k).2.2.1 = some (t_ND k) := by decide +kernel
theorem in_ND : ∀ w ∈ u_ws R_ND F_ND 15, w ∈ qa_T := by
  intro w hw
  obtain ⟨k, hk, rfl⟩ := List.mem_map.mp hw
  have hk := List.mem_range.mp hk
  rcases (show k = 0 ∨ k = 1 ∨ k = 2 ∨ k = 3 ∨ k = 4 ∨ k = 5 ∨ k = 6 ∨ k = 7 ∨ k = 8 ∨ k = 9 ∨ k = 10 ∨ k = 11 ∨ k = 12 ∨ k = 13 ∨ k = 14 by omega) with rfl | rfl | rfl | rfl | rfl | rfl | rfl | rfl | rfl | rfl | rfl | rfl | rfl | rfl | rfl
  · exact qa_m1 67 (by decide +kernel) rfl
  · exact qa_m1 69 (by decide +kernel) rfl
  · exact qa_m1 71 (by decide +kernel) rfl
  · exact qa_m1 73 (by decide +kernel) rfl
  · exact qa_m1 75 (by decide +kernel) rfl
  · exact qa_m1 77 (by decide +kernel) rfl
  · exact qa_m1 79 (by decide +kernel) rfl
  · exact qa_m1 81 (by decide +kernel) rfl
  · exact qa_m1 83 (by decide +kernel) rfl
  · exact qa_m1 85 (by decide +kernel) rfl
  · exact qa_m1 87 (by decide +kernel) rfl
  · exact qa_m1 89 (by decide +kernel) rfl
  · exact qa_m1 91 (by decide +kernel) rfl
  · exact qa_m1 93 (by decide +kernel) rfl
  · exact qa_m1 95 (by decide +kernel) rfl
def R_RL : String := "VotedFrames$Relay"
def F_RL : u_T := fun k => match k with
  | 0 => ("VotedFrames$Relay", "nodes", "[LVotedFrames$Node;", true)
  | 1 => ("VotedFrames$Relay", "faults", "I", true)
  | 2 => ("VotedFrames$Relay", "held", "[I", true)
  | 3 => ("VotedFrames$Relay", "lists", "[[I", true)
  | 4 => ("VotedFrames$Relay", "source", "I", false)
  | 5 => ("VotedFrames$Relay", "value", "I", false)
  | 6 => ("VotedFrames$Relay", "frameNumber", "I", false)
  | _ => ("VotedFrames$Relay", "rounds", "I", false)
def t_RL : Nat → FieldType := fun k => match k with
  | 0 => .array (.object "VotedFrames$Node")
  | 1 => .int
  | 2 => .array .int
  | 3 => .array (.array .int)
  | 4 => .int
  | 5 => .int
  | 6 => .int
  | _ => .int
theorem n_RL : ∀ a, a < 8 → ∀ b, b < 8 → a ≠ b → (F_RL a).2.1 ≠ (F_RL b).2.1 := by decide +kernel
theorem t_RL_ok : ∀ k, k < 8 → parseFieldDescriptor (F_RL k).2.2.1 = some (t_RL k) := by decide +kernel
theorem in_RL : ∀ w ∈ u_ws R_RL F_RL 8, w ∈ qa_T := by
  intro w hw
  obtain ⟨k, hk, rfl⟩ := List.mem_map.mp hw
  have hk := List.mem_range.mp hk
  rcases (show k = 0 ∨ k = 1 ∨ k = 2 ∨ k = 3 ∨ k = 4 ∨ k = 5 ∨ k = 6 ∨ k = 7 by omega) with rfl | rfl | rfl | rfl | rfl | rfl | rfl | rfl
  · exact qa_m1 115 (by decide +kernel) rfl
  · exact qa_m1 117 (by decide +kernel) rfl
  · exact qa_m1 119 (by decide +kernel) rfl
  · exact qa_m1 121 (by decide +kernel) rfl
  · exact qa_m1 123 (by decide +kernel) rfl
  · exact qa_m1 125 (by decide +kernel) rfl
  · exact qa_m1 127 (by decide +kernel) rfl
  · exact qa_m1 129 (by decide +kernel) rfl
def R_TK : String := "VotedFrames$Task"
def F_TK : u_T := fun k => match k with
  | 0 => ("VotedFrames$Task", "ops", "[I", true)
  | 1 => ("VotedFrames$Task", "numbers", "[I", true)
  | 2 => ("VotedFrames$Task", "length", "I", false)
  | 3 => ("VotedFrames$Task", "period", "I", false)
  | _ => ("VotedFrames$Task", "phase", "I", false)
def t_TK : Nat → FieldType := fun k => match k with
  | 0 => .array .int
  | 1 => .array .int
  | 2 => .int
  | 3 => .int
  | _ => .int
theorem n_TK : ∀ a, a < 5 → ∀ b, b < 5 → a ≠ b → (F_TK a).2.1 ≠ (F_TK b).2.1 := by decide +kernel
theorem t_TK_ok : ∀ k, k < 5 → parseFieldDescriptor (F_TK k).2.2.1 = some (t_TK k) := by decide +kernel
theorem in_TK : ∀ w ∈ u_ws R_TK F_TK 5, w ∈ qa_T := by
  intro w hw
  obtain ⟨k, hk, rfl⟩ := List.mem_map.mp hw
  have hk := List.mem_range.mp hk
  rcases (show k = 0 ∨ k = 1 ∨ k = 2 ∨ k = 3 ∨ k = 4 by omega) with rfl | rfl | rfl | rfl | rfl
  · exact qa_m1 152 (by decide +kernel) rfl
  · exact qa_m1 154 (by decide +kernel) rfl
  · exact qa_m1 156 (by decide +kernel) rfl
  · exact qa_m1 158 (by decide +kernel) rfl
  · exact qa_m1 160 (by decide +kernel) rfl
def R_SM : String := "VotedFrames$StackMachine"
def F_SM : u_T := fun k => match k with
  | 0 => ("VotedFrames$StackMachine", "stack", "[I", true)
  | _ => ("VotedFrames$StackMachine", "depth", "I", false)
def t_SM : Nat → FieldType := fun k => match k with
  | 0 => .array .int
  | _ => .int
theorem n_SM : ∀ a, a < 2 → ∀ b, b < 2 → a ≠ b → (F_SM a).2.1 ≠ (F_SM b).2.1 := by decide +kernel
theorem t_SM_ok : ∀ k, k < 2 → parseFieldDescriptor (F_SM k).2.2.1 = some (t_SM k) := by decide +kernel
theorem in_SM : ∀ w ∈ u_ws R_SM F_SM 2, w ∈ qa_T := by
  intro w hw
  obtain ⟨k, hk, rfl⟩ := List.mem_map.mp hw
  have hk := List.mem_range.mp hk
  rcases (show k = 0 ∨ k = 1 by omega) with rfl | rfl
  · exact qa_m1 171 (by decide +kernel) rfl
  · exact qa_m1 173 (by decide +kernel) rfl
def R_MD : String := "VotedFramesModel"
def F_MD : u_T := fun k => match k with
  | 0 => ("VotedFramesModel", "n", "I", false)
  | 1 => ("VotedFramesModel", "m", "I", false)
  | 2 => ("VotedFramesModel", "delta", "I", false)
  | 3 => ("VotedFramesModel", "frames", "I", false)
  | 4 => ("VotedFramesModel", "strikes", "I", false)
  | 5 => ("VotedFramesModel", "clock", "[I", true)
  | 6 => ("VotedFramesModel", "drift", "[I", true)
  | 7 => ("VotedFramesModel", "sensor", "[I", true)
  | 8 => ("VotedFramesModel", "kind", "[I", true)
  | 9 => ("VotedFramesModel", "extra", "[I", true)
  | 10 => ("VotedFramesModel", "mask", "[I", true)
  | 11 => ("VotedFramesModel", "blamed", "[I", true)
  | 12 => ("VotedFramesModel", "shift", "[I", true)
  | 13 => ("VotedFramesModel", "result", "[I", true)
  | 14 => ("VotedFramesModel", "words", "[I", true)
  | 15 => ("VotedFramesModel", "inputs", "[I", true)
  | 16 => ("VotedFramesModel", "charges", "[I", true)
  | 17 => ("VotedFramesModel", "delays", "[I", true)
  | 18 => ("VotedFramesModel", "errors", "[I", true)
  | 19 => ("VotedFramesModel", "ops", "[I", true)
  | 20 => ("VotedFramesModel", "args", "[I", true)
  | 21 => ("VotedFramesModel", "sizes", "[I", true)
  | 22 => ("VotedFramesModel", "periods", "[I", true)
  | 23 => ("VotedFramesModel", "phases", "[I", true)
  | 24 => ("VotedFramesModel", "stack", "[I", true)
  | 25 => ("VotedFramesModel", "depth", "I", false)
  | _ => ("VotedFramesModel", "list", "[I", true)
def t_MD : Nat → FieldType := fun k => match k with
  | 0 => .int
  | 1 => .int
  | 2 => .int
  | 3 => .int
  | 4 => .int
  | 5 => .array .int
  | 6 => .array .int
  | 7 => .array .int
  | 8 => .array .int
  | 9 => .array .int
  | 10 => .array .int
  | 11 => .array .int
  | 12 => .array .int
  | 13 => .array .int
  | 14 => .array .int
  | 15 => .array .int
  | 16 => .array .int
  | 17 => .array .int
  | 18 => .array .int
  | 19 => .array .int
  | 20 => .array .int
  | 21 => .array .int
  | 22 => .array .int
  | 23 => .array .int
  | 24 => .array .int
  | 25 => .int
  | _ => .array .int
theorem n_MD : ∀ a, a < 27 → ∀ b, b < 27 → a ≠ b → (F_MD a).2.1 ≠ (F_MD b).2.1 := by decide +kernel
theorem t_MD_ok : ∀ k, k < 27 → parseFieldDescriptor (F_MD k).2.2.1 = some (t_MD k) := by decide +kernel
theorem in_MD : ∀ w ∈ u_ws R_MD F_MD 27, w ∈ qa_T := by
  intro w hw
  obtain ⟨k, hk, rfl⟩ := List.mem_map.mp hw
  have hk := List.mem_range.mp hk
  rcases (show k = 0 ∨ k = 1 ∨ k = 2 ∨ k = 3 ∨ k = 4 ∨ k = 5 ∨ k = 6 ∨ k = 7 ∨ k = 8 ∨ k = 9 ∨ k = 10 ∨ k = 11 ∨ k = 12 ∨ k = 13 ∨ k = 14 ∨ k = 15 ∨ k = 16 ∨ k = 17 ∨ k = 18 ∨ k = 19 ∨ k = 20 ∨ k = 21 ∨ k = 22 ∨ k = 23 ∨ k = 24 ∨ k = 25 ∨ k = 26 by omega) with rfl | rfl | rfl | rfl | rfl | rfl | rfl | rfl | rfl | rfl | rfl | rfl | rfl | rfl | rfl | rfl | rfl | rfl | rfl | rfl | rfl | rfl | rfl | rfl | rfl | rfl | rfl
  · exact qa_m3 54 (by decide +kernel) rfl
  · exact qa_m3 56 (by decide +kernel) rfl
  · exact qa_m3 58 (by decide +kernel) rfl
  · exact qa_m3 60 (by decide +kernel) rfl
  · exact qa_m3 62 (by decide +kernel) rfl
  · exact qa_m3 64 (by decide +kernel) rfl
  · exact qa_m3 66 (by decide +kernel) rfl
  · exact qa_m3 68 (by decide +kernel) rfl
  · exact qa_m3 70 (by decide +kernel) rfl
  · exact qa_m3 72 (by decide +kernel) rfl
  · exact qa_m3 74 (by decide +kernel) rfl
  · exact qa_m3 76 (by decide +kernel) rfl
  · exact qa_m3 78 (by decide +kernel) rfl
  · exact qa_m3 80 (by decide +kernel) rfl
  · exact qa_m3 82 (by decide +kernel) rfl
  · exact qa_m3 84 (by decide +kernel) rfl
  · exact qa_m3 86 (by decide +kernel) rfl
  · exact qa_m3 88 (by decide +kernel) rfl
  · exact qa_m3 90 (by decide +kernel) rfl
  · exact qa_m3 92 (by decide +kernel) rfl
  · exact qa_m3 94 (by decide +kernel) rfl
  · exact qa_m3 96 (by decide +kernel) rfl
  · exact qa_m3 98 (by decide +kernel) rfl
  · exact qa_m3 100 (by decide +kernel) rfl
  · exact qa_m3 102 (by decide +kernel) rfl
  · exact qa_m3 104 (by decide +kernel) rfl
  · exact qa_m3 106 (by decide +kernel) rfl
abbrev qa_Cl : List vw_C := [(R_VF, F_VF, 12), (R_ND, F_ND, 15), (R_RL, F_RL, 8), (R_TK, F_TK, 5), (R_SM, F_SM, 2), (R_MD, F_MD, 27)]
theorem qa_in {C : String} {T : u_T} {N : Nat} (ci : Nat) (hc : qa_Cl[ci]? = some (C, T, N)) : ∀ w ∈ u_ws C T N, w ∈ qa_T := by
  have hlt : ci < 6 := (List.getElem?_eq_some_iff.mp hc).1
  rcases (show ci = 0 ∨ ci = 1 ∨ ci = 2 ∨ ci = 3 ∨ ci = 4 ∨ ci = 5 by omega) with rfl | rfl | rfl | rfl | rfl | rfl
  · cases hc; exact in_VF
  · cases hc; exact in_ND
  · cases hc; exact in_RL
  · cases hc; exact in_TK
  · cases hc; exact in_SM
  · cases hc; exact in_MD
theorem qa_tn {C : String} {T : u_T} {N : Nat} (ci : Nat) (hc : qa_Cl[ci]? = some (C, T, N)) : ∃ ty : Nat → FieldType, (∀ k, k < N → parseFieldDescriptor (T k).2.2.1 = some (ty k)) ∧ (∀ a, a < N → ∀ b, b < N → a ≠ b → (T a).2.1 ≠ (T b).2.1) := by
  have hlt : ci < 6 := (List.getElem?_eq_some_iff.mp hc).1
  rcases (show ci = 0 ∨ ci = 1 ∨ ci = 2 ∨ ci = 3 ∨ ci = 4 ∨ ci = 5 by omega) with rfl | rfl | rfl | rfl | rfl | rfl
  · cases hc; exact ⟨t_VF, t_VF_ok, n_VF⟩
  · cases hc; exact ⟨t_ND, t_ND_ok, n_ND⟩
  · cases hc; exact ⟨t_RL, t_RL_ok, n_RL⟩
  · cases hc; exact ⟨t_TK, t_TK_ok, n_TK⟩
  · cases hc; exact ⟨t_SM, t_SM_ok, n_SM⟩
  · cases hc; exact ⟨t_MD, t_MD_ok, n_MD⟩
end
section
/-! one memory of ints under names (kind, instance, field or place); cells of the heap are named (kind, instance) -/
abbrev qa_M : Type := Nat → Nat → Nat → Int32
def qa_up (v : qa_M) (k i f : Nat) (x : Int32) : qa_M := fun k' i' f' => if k' = k ∧ i' = i ∧ f' = f then x else v k' i' f'
theorem qa_up_s {v : qa_M} {k i f : Nat} {x : Int32} : qa_up v k i f x k i f = x := by simp [qa_up]
theorem qa_up_k {v : qa_M} {k i f k' i' f' : Nat} {x : Int32} (h : k' ≠ k) : qa_up v k i f x k' i' f' = v k' i' f' := by simp [qa_up, h]
theorem qa_up_i {v : qa_M} {k i f k' i' f' : Nat} {x : Int32} (h : i' ≠ i) : qa_up v k i f x k' i' f' = v k' i' f' := by simp [qa_up, h]
theorem qa_up_f {v : qa_M} {k i f k' i' f' : Nat} {x : Int32} (h : f' ≠ f) : qa_up v k i f x k' i' f' = v k' i' f' := by simp [qa_up, h]
theorem qa_up_kk {v : qa_M} {k i f k' : Nat} {x : Int32} (h : k' ≠ k) : qa_up v k i f x k' = v k' := by funext a b; simp [qa_up, h]
theorem qa_up_ii {v : qa_M} {k i f k' i' : Nat} {x : Int32} (h : ¬ (k' = k ∧ i' = i)) : qa_up v k i f x k' i' = v k' i' := by
  funext b
  simp only [qa_up]
  rw [if_neg]
  exact fun q => h ⟨q.1, q.2.1⟩
/-- a layout: class numbers and slots, array classes, addresses, all addresses, the three numbers that stay -/
abbrev qa_L : Type := va_G × (Nat → ClassId) × (Nat → Nat → Nat) × List Nat × (Nat × Nat × Int32)
def qa_D (y : qa_L) : va_G := y.1
def qa_c (y : qa_L) : Nat → ClassId := y.2.1
def qa_a (y : qa_L) : Nat → Nat → Nat := y.2.2.1
def qa_As (y : qa_L) : List Nat := y.2.2.2.1
def qa_n (y : qa_L) : Nat := y.2.2.2.2.1
def qa_m (y : qa_L) : Nat := y.2.2.2.2.2.1
def qa_d (y : qa_L) : Int32 := y.2.2.2.2.2.2
def qa_A (y : qa_L) : Nat → Prop := fun q => q ∈ qa_As y
/-- rows of the tree of paths, and the places of held -/
def qa_rows (n m : Nat) : Nat := match m with
  | 0 => 1
  | 1 => n + 1
  | _ => (n + 1) * n + 1
def qa_h (y : qa_L) : Nat := qa_rows (qa_n y) (qa_m y) * qa_n y
/-- how many cells of a kind there are -/
def qa_pr (y : qa_L) (k : Nat) : Nat := match k with
  | 0 => 1
  | 1 => 1
  | 2 => qa_n y
  | 3 => qa_n y
  | 4 => qa_n y
  | 5 => qa_n y
  | 6 => qa_n y
  | 7 => qa_n y
  | 8 => 1
  | 9 => 1
  | 10 => 1
  | 11 => qa_m y + 1
  | 12 => 1
  | 13 => 4
  | 14 => 4
  | 15 => 4
  | 16 => 1
  | 17 => 1
  | 18 => 1
  | 19 => 1
  | 20 => 1
  | 21 => 1
  | 22 => 1
  | 23 => 1
  | 24 => 1
  | 25 => 1
  | 26 => 1
  | 27 => 1
  | 28 => 1
  | 29 => 1
  | 30 => 1
  | 31 => 1
  | 32 => 1
  | 33 => 1
  | 34 => 1
  | 35 => 1
  | 36 => 1
  | 37 => 1
  | 38 => 1
  | 39 => 1
  | 40 => 1
  | 41 => 1
  | 42 => 1
  | 43 => 1
  | _ => 0
/-- how long the arrays of a kind are -/
def qa_ln (y : qa_L) (k : Nat) : Nat := match k with
  | 1 => qa_n y
  | 3 => qa_n y
  | 4 => qa_n y
  | 5 => qa_n y
  | 6 => qa_n y
  | 7 => 4
  | 9 => qa_h y
  | 10 => qa_m y + 1
  | 11 => qa_n y
  | 12 => 4
  | 14 => 12
  | 15 => 12
  | 17 => 6
  | 18 => 4
  | 19 => qa_n y
  | 20 => qa_n y
  | 21 => qa_n y
  | 23 => 7
  | 24 => 7
  | 25 => 7
  | 26 => 7
  | 27 => 7
  | 28 => 7
  | 29 => 7
  | 30 => 7
  | 31 => 7
  | 32 => 32
  | 33 => 56
  | 34 => 49
  | 35 => 49
  | 36 => 49
  | 37 => 48
  | 38 => 48
  | 39 => 4
  | 40 => 4
  | 41 => 4
  | 42 => 6
  | 43 => 16
  | _ => 0
/-- kinds of objects: place of the class, fields -/
def qa_cls (k : Nat) : Option (Nat × Nat) := match k with
  | 0 => some (0, 12)
  | 2 => some (1, 15)
  | 8 => some (2, 8)
  | 13 => some (3, 5)
  | 16 => some (4, 2)
  | 22 => some (5, 27)
  | _ => none
/-- kinds of arrays of references: number of the array class, contents -/
def qa_ref (y : qa_L) (k : Nat) : Option (Nat × (Nat → Option Nat)) := match k with
  | 1 => some (1, fun j => some (qa_a y 2 j))
  | 10 => some (3, fun j => some (qa_a y 11 j))
  | 12 => some (2, fun j => some (qa_a y 13 j))
  | _ => none
/-- fields that never change behind the constructors -/
def qa_cst (y : qa_L) (k i f : Nat) : Option Value := match k, f with
  | 0, 0 => some (.int (nI (qa_n y)))
  | 0, 1 => some (.int (nI (qa_m y)))
  | 0, 2 => some (.int (qa_d y))
  | 0, 3 => some (.ref (qa_a y 1 0))
  | 0, 4 => some (.ref (qa_a y 8 0))
  | 0, 5 => some (.ref (qa_a y 12 0))
  | 0, 6 => some (.ref (qa_a y 16 0))
  | 0, 7 => some (.ref (qa_a y 18 0))
  | 0, 8 => some (.ref (qa_a y 19 0))
  | 0, 9 => some (.ref (qa_a y 20 0))
  | 0, 10 => some (.ref (qa_a y 21 0))
  | 2, 0 => some (.int (nI i))
  | 2, 1 => some (.ref (qa_a y 3 i))
  | 2, 2 => some (.ref (qa_a y 4 i))
  | 2, 3 => some (.ref (qa_a y 5 i))
  | 2, 4 => some (.ref (qa_a y 6 i))
  | 2, 5 => some (.ref (qa_a y 7 i))
  | 8, 0 => some (.ref (qa_a y 1 0))
  | 8, 1 => some (.int (nI (qa_m y)))
  | 8, 2 => some (.ref (qa_a y 9 0))
  | 8, 3 => some (.ref (qa_a y 10 0))
  | 13, 0 => some (.ref (qa_a y 14 i))
  | 13, 1 => some (.ref (qa_a y 15 i))
  | 16, 0 => some (.ref (qa_a y 17 0))
  | 22, 0 => some (.int (nI (qa_n y)))
  | 22, 1 => some (.int (nI (qa_m y)))
  | 22, 2 => some (.int (qa_d y))
  | 22, 5 => some (.ref (qa_a y 23 0))
  | 22, 6 => some (.ref (qa_a y 24 0))
  | 22, 7 => some (.ref (qa_a y 25 0))
  | 22, 8 => some (.ref (qa_a y 26 0))
  | 22, 9 => some (.ref (qa_a y 27 0))
  | 22, 10 => some (.ref (qa_a y 28 0))
  | 22, 11 => some (.ref (qa_a y 29 0))
  | 22, 12 => some (.ref (qa_a y 30 0))
  | 22, 13 => some (.ref (qa_a y 31 0))
  | 22, 14 => some (.ref (qa_a y 32 0))
  | 22, 15 => some (.ref (qa_a y 33 0))
  | 22, 16 => some (.ref (qa_a y 34 0))
  | 22, 17 => some (.ref (qa_a y 35 0))
  | 22, 18 => some (.ref (qa_a y 36 0))
  | 22, 19 => some (.ref (qa_a y 37 0))
  | 22, 20 => some (.ref (qa_a y 38 0))
  | 22, 21 => some (.ref (qa_a y 39 0))
  | 22, 22 => some (.ref (qa_a y 40 0))
  | 22, 23 => some (.ref (qa_a y 41 0))
  | 22, 24 => some (.ref (qa_a y 42 0))
  | 22, 26 => some (.ref (qa_a y 43 0))
  | _, _ => none
/-- the context of a running method: what the machine and the tables are, and what the heap holds -/
def qa_ok (y : qa_L) : Prop := (∀ k i, i < qa_pr y k → qa_a y k i ∈ qa_As y) ∧ (∀ k i k' i', i < qa_pr y k → i' < qa_pr y k' → qa_a y k i = qa_a y k' i' → k = k' ∧ i = i') ∧ 4 ≤ qa_n y ∧ qa_n y ≤ 7 ∧ 3 * qa_m y < qa_n y ∧ 1 ≤ (qa_d y).toInt ∧ (qa_d y).toInt ≤ 200
def qa_fv (y : qa_L) (v : qa_M) (k i f : Nat) : Value := (qa_cst y k i f).getD (.int (v k i f))
def qa_cell (y : qa_L) (v : qa_M) (k i : Nat) : va_E := match qa_cls k with
  | some q => .inr (q.1, (List.range q.2).map (qa_fv y v k i))
  | none => match qa_ref y k with
    | some q => .inl (qa_c y q.1, (qa_ln y k, .inr (.inr (.inr (.inr q.2)))))
    | none => .inl (qa_c y 0, (qa_ln y k, .inl (v k i)))
theorem qa_cell_o {y : qa_L} {v : qa_M} {k i ci N : Nat} (h : qa_cls k = some (ci, N)) : qa_cell y v k i = .inr (ci, (List.range N).map (qa_fv y v k i)) := by simp [qa_cell, h]
theorem qa_cell_r {y : qa_L} {v : qa_M} {k i t : Nat} {g : Nat → Option Nat} (h : qa_cls k = none) (h2 : qa_ref y k = some (t, g)) : qa_cell y v k i = .inl (qa_c y t, (qa_ln y k, .inr (.inr (.inr (.inr g))))) := by simp [qa_cell, h, h2]
theorem qa_cell_a {y : qa_L} {v : qa_M} {k i : Nat} (h : qa_cls k = none) (h2 : qa_ref y k = none) : qa_cell y v k i = .inl (qa_c y 0, (qa_ln y k, .inl (v k i))) := by simp [qa_cell, h, h2]
theorem qa_cell_n {y : qa_L} {v w : qa_M} {k i : Nat} (h : w k i = v k i) : qa_cell y w k i = qa_cell y v k i := by
  have e : qa_fv y w k i = qa_fv y v k i := by funext f; simp [qa_fv, h]
  simp [qa_cell, h, e]
theorem qa_cell_l (y : qa_L) (v : qa_M) (k i : Nat) (hn : qa_cls k = none) : ∃ t x, qa_cell y v k i = .inl (qa_c y t, (qa_ln y k, x)) ∧ (t = 0 ∨ ∃ g, qa_ref y k = some (t, g)) := by
  cases h : qa_ref y k with
  | none => exact ⟨0, _, qa_cell_a hn h, Or.inl rfl⟩
  | some q => exact ⟨q.1, _, qa_cell_r hn (g := q.2) h, Or.inr ⟨q.2, rfl⟩⟩
/-- the heap holds the memory v in the layout y -/
def qa_P (y : qa_L) (v : qa_M) (H : Heap) : Prop := ∃ g : Nat → va_E, va_P (qa_D y) qa_Cl (va_pl (qa_As y) g) H ∧ va_D (qa_A y) (va_pl (qa_As y) g) ∧ ∀ k i, i < qa_pr y k → g (qa_a y k i) = qa_cell y v k i
def qa_tys (y : qa_L) : List (ClassId × FieldType) := [(qa_c y 0, .int), (qa_c y 1, .object "VotedFrames$Node"), (qa_c y 2, .object "VotedFrames$Task"), (qa_c y 3, .array .int)]
def qa_K (y : qa_L) (U : State) : Prop := qa_ok y ∧ va_K (qa_D y) qa_Cl (qa_tys y) U ∧ ∀ w ∈ qa_Nw, va_Nw w U
def qa_W (y : qa_L) (v : qa_M) (U : State) : Prop := qa_P y v U.heap ∧ qa_K y U
def qa_C (y : qa_L) (v : qa_M) (s : State) (H : Heap) (locs : List Loc) : Prop := qa_P y v H ∧ va_S (qa_A y) s.heap H locs
def qa_E (p : Program) (m : MethodId) (c : Code) (cc : ByteArray) (nL : Nat) (s : State) (args : Array Value) (own : String) (y : qa_L) : Prop := CallFix p m c cc nL s args qa_T own ∧ qa_K y s
theorem qa_K.moved {y : qa_L} {s U : State} (hW : s.WarmedH U.vm) (h : qa_K y s) : qa_K y U := ⟨h.1, va_K.moved hW.alike h.2.1, fun w hw => qa_Nw_moved hW w hw (h.2.2 w hw)⟩
theorem qa_h_lt {y : qa_L} (h : qa_ok y) : qa_h y < 2 ^ 31 := by
  obtain ⟨-, -, h1, h2, h3, -, -⟩ := h
  have hm : qa_m y = 0 ∨ qa_m y = 1 ∨ qa_m y = 2 := by omega
  have hn : qa_n y = 4 ∨ qa_n y = 5 ∨ qa_n y = 6 ∨ qa_n y = 7 := by omega
  unfold qa_h
  rcases hm with e | e | e <;> rcases hn with f | f | f | f <;> rw [e, f] <;> decide
theorem qa_ln_lt {y : qa_L} (h : qa_ok y) (k : Nat) : qa_ln y k < 2 ^ 31 := by
  have hh := qa_h_lt h
  obtain ⟨-, -, h1, h2, h3, -, -⟩ := h
  unfold qa_ln
  split <;> omega
theorem qa_ref_ty {y : qa_L} {k t : Nat} {g : Nat → Option Nat} (h : qa_ref y k = some (t, g)) : ∃ ty, (qa_tys y)[t]? = some (qa_c y t, ty) := by
  unfold qa_ref at h
  split at h
  · cases h; exact ⟨_, rfl⟩
  · cases h; exact ⟨_, rfl⟩
  · cases h; exact ⟨_, rfl⟩
  · cases h
theorem qa_T_good : ∀ w ∈ qa_T, (w.onTables && w.keeps) = true ∨ ∃ ty, w = .arrayClass ty := by
  intro w hw
  have h := (List.mem_filter.mp hw).2
  rcases Bool.or_eq_true _ _ |>.mp h with h | h
  · cases w <;> first | (simp [k2_isCode] at h; done) | exact Or.inl rfl
  · exact good_of_word h
/-- the room of a method at level n -/
def qa_R (n : Nat) : Room := { frames := n, cells := 0, slots := 0, locals := 64 * n }
abbrev qa_ws (x : MethodName) (bytes : ByteArray) (maxL : Nat) (ret : Option FieldType) : List Cond := .code x bytes maxL ret :: qa_T
/-- a method that writes nothing: its answer is r -/
def qa_Pu (l : Launch) (x : MethodName) (bytes : ByteArray) (maxL : Nat) (ret : Option FieldType) (n : Nat) (av : List Value) (Pre : State → Prop) (r : Int32) : Prop :=
  Met l x (qa_ws x bytes maxL ret) (qa_R n) (va_Pc av Pre) (QcRead r) 0 0 (fun _ => False)
/-- a method that changes the memory, and answers an int -/
def qa_Mi (l : Launch) (x : MethodName) (bytes : ByteArray) (maxL : Nat) (ret : Option FieldType) (n : Nat) (av : List Value) (y : qa_L) (v : qa_M) (post : Int32 → qa_M → Prop) : Prop :=
  Met l x (qa_ws x bytes maxL ret) (qa_R n) (va_Pc av (qa_W y v)) (va_Qi post (fun u t => qa_W y u t) (qa_A y)) 0 0 (qa_A y)
/-- a method that changes the memory, and answers nothing -/
def qa_Mv (l : Launch) (x : MethodName) (bytes : ByteArray) (maxL : Nat) (n : Nat) (av : List Value) (y : qa_L) (v : qa_M) (post : qa_M → Prop) : Prop :=
  Met l x (qa_ws x bytes maxL none) (qa_R n) (va_Pc av (qa_W y v)) (va_Qv post (fun u t => qa_W y u t) (qa_A y)) 0 0 (qa_A y)
theorem qa_K.same {y : qa_L} {s U : State} (h : s.vm = U.vm) (hK : qa_K y s) : qa_K y U := ⟨hK.1, va_K.moved (by rw [h]; exact Vm.Alike.refl _) hK.2.1, fun w hw => va_Nw.same (qa_Nw_tabs w hw) h (hK.2.2 w hw)⟩
theorem qa_W.blind {av : List Value} {y : qa_L} {v : qa_M} : FrameBlind (va_Pc av (qa_W y v)) := fun _ U _ _ h => ⟨h.1, h.2.1, qa_K.same (s := U) rfl h.2.2⟩
theorem qa_true.blind {av : List Value} : FrameBlind (va_Pc av (fun _ => True)) := fun _ _ _ _ h => ⟨h.1, trivial⟩
section QA
variable {p : Program} {l : Launch} {e : Env} {R : Room} {s : State} {m : MethodId} {args : Array Value} {below : List Frame} {meth : Method} {c : Code} {H : Heap} {locs : List Loc} {cells slots : Nat} {Q : State → Prop}
variable {cc : ByteArray} {pc nL : Nat} {ls : Array Slot} {rest : List Value} {own : String} {y : qa_L} {v : qa_M} {k i : Nat}
theorem qa_at (hK : qa_K y s) (hC : qa_C y v s H locs) (hi : i < qa_pr y k) : ∃ (g : Nat → va_E) (q : Nat), va_P (qa_D y) qa_Cl (va_pl (qa_As y) g) H ∧ va_D (qa_A y) (va_pl (qa_As y) g) ∧ (∀ k i, i < qa_pr y k → g (qa_a y k i) = qa_cell y v k i) ∧ (va_pl (qa_As y) g)[q]? = some (qa_a y k i, g (qa_a y k i)) := by
  obtain ⟨⟨g, hP, hD, hg⟩, hS⟩ := hC
  obtain ⟨q, hq⟩ := va_pl_get (X := []) (f := g) (hK.1.1 k i hi)
  exact ⟨g, q, hP, hD, hg, hq⟩
/-- behind a write to one cell -/
theorem qa_wrote (hK : qa_K y s) {g : Nat → va_E} {q : Nat} (hD : va_D (qa_A y) (va_pl (qa_As y) g)) (hg : ∀ k i, i < qa_pr y k → g (qa_a y k i) = qa_cell y v k i) (hi : i < qa_pr y k) (hq : (va_pl (qa_As y) g)[q]? = some (qa_a y k i, g (qa_a y k i))) {f : Nat} {x : Int32} {n : va_E} (hn : n = qa_cell y (qa_up v k i f x) k i) {H1 : Heap} {locs1 : List Loc} (hP1 : va_P (qa_D y) qa_Cl ((va_pl (qa_As y) g).set q (qa_a y k i, n)) H1) (hD1 : va_D (qa_A y) ((va_pl (qa_As y) g).set q (qa_a y k i, n))) (hS1 : va_S (qa_A y) s.heap H1 locs1) : qa_C y (qa_up v k i f x) s H1 locs1 := by
  have hs := va_pl_set (X := []) (e := n) hD (hK.1.1 k i hi) hq
  have hs' : (va_pl (qa_As y) g).set q (qa_a y k i, n) = va_pl (qa_As y) (va_up g (qa_a y k i) n) := hs
  rw [hs'] at hP1 hD1
  refine ⟨⟨_, hP1, hD1, fun k' i' hi' => ?_⟩, hS1⟩
  by_cases he : qa_a y k' i' = qa_a y k i
  · obtain ⟨rfl, rfl⟩ := hK.1.2.1 _ _ _ _ hi' hi he
    rw [va_up_self, hn]
  · rw [va_up_ne _ _ he, hg k' i' hi']
    exact (qa_cell_n (qa_up_ii (fun (h : k' = k ∧ i' = i) => he (by rw [h.1, h.2])))).symm
theorem qa_get {C : String} {T : u_T} {N ci index f : Nat} (E : qa_E p m c cc nL s args own y) (hC : qa_C y v s H locs) (hi : i < qa_pr y k) (hk : qa_cls k = some (ci, N)) (hc : qa_Cl[ci]? = some (C, T, N)) (hf : f < N) (hl : Cond.fieldLink own index C (T f).2.1 (T f).2.2.1 ∈ qa_T) (hT : (T f).1 = C) {val : Value} (hv : qa_fv y v k i f = val) (hdg : decode cc pc = .ok (.getfield index, 3))
    (kk : W p l e R s m args below meth c H locs cells slots Q (F0 m (pc + 3) ls (val :: rest))) : W p l e R s m args below meth c H locs cells slots Q (F0 m pc ls (.ref (qa_a y k i) :: rest)) := by
  obtain ⟨⟨hx, hb, hml, hown, hts⟩, hK⟩ := E
  obtain ⟨g, q, hP, hD, hg, hq⟩ := qa_at hK hC hi
  rw [hg k i hi, qa_cell_o hk] at hq
  refine va_get hx hb hts (qa_in ci hc) hown hK.2.1 hP q hq hc f hf (hts _ hl) (fun x h => by rw [hT] at h; exact h) (v := val) ?_ hdg kk
  rw [List.getElem?_map, List.getElem?_range hf, Option.map_some, hv]
theorem qa_fv_put {f N : Nat} {x : Int32} (h : qa_cst y k i f = none) (hf : f < N) : ((List.range N).map (qa_fv y v k i)).set f (.int x) = (List.range N).map (qa_fv y (qa_up v k i f x) k i) := by
  apply List.ext_getElem?
  intro j
  by_cases hj : j = f
  · subst hj
    rw [List.getElem?_set_self (by simpa using hf), List.getElem?_map, List.getElem?_range hf]
    simp [qa_fv, h, qa_up]
  · rw [List.getElem?_set_ne (Ne.symm hj), List.getElem?_map, List.getElem?_map]
    by_cases hN : j < N
    · rw [List.getElem?_range hN]
      simp [qa_fv, qa_up, hj]
    · rw [List.getElem?_eq_none (by simpa using hN)]
      rfl
theorem qa_put {C : String} {T : u_T} {N ci index f : Nat} {x : Int32} (E : qa_E p m c cc nL s args own y) (hC : qa_C y v s H locs) (hi : i < qa_pr y k) (hk : qa_cls k = some (ci, N)) (hc : qa_Cl[ci]? = some (C, T, N)) (hf : f < N) (hl : Cond.fieldLink own index C (T f).2.1 (T f).2.2.1 ∈ qa_T) (hT : (T f).1 = C) (hfin : (T f).2.2.2 = false) (hI : (T f).2.2.1 = "I") (hcst : qa_cst y k i f = none) (hdg : decode cc pc = .ok (.putfield index, 3))
    (kk : ∀ (H1 : Heap) (locs1 : List Loc), qa_C y (qa_up v k i f x) s H1 locs1 → W p l e R s m args below meth c H1 locs1 cells slots Q (F0 m (pc + 3) ls rest)) : W p l e R s m args below meth c H locs cells slots Q (F0 m pc ls (.int x :: .ref (qa_a y k i) :: rest)) := by
  obtain ⟨⟨hx, hb, hml, hown, hts⟩, hK⟩ := E
  obtain ⟨g, q, hP, hD, hg, hq⟩ := qa_at hK hC hi
  have hq' := hq
  rw [hg k i hi, qa_cell_o hk] at hq'
  obtain ⟨ty, hty, hnm⟩ := qa_tn ci hc
  refine va_put hx hb hts (qa_in ci hc) ty hty hnm hown hK.2.1 hP hD hC.2 q hq' hc f hf (hts _ hl) (fun x h => by rw [hT] at h; exact h) hfin (ty := .int) (v := .int x) (by rw [hI]; rfl) rfl rfl (by simpa using hf) hdg (fun H1 locs1 hP1 hD1 hS1 => ?_)
  refine kk H1 locs1 (qa_wrote hK hD hg hi hq ?_ hP1 hD1 hS1)
  rw [qa_cell_o hk, qa_fv_put hcst hf]
theorem qa_ild {x : Int32} {j : Nat} (E : qa_E p m c cc nL s args own y) (hC : qa_C y v s H locs) (hi : i < qa_pr y k) (hk : qa_cls k = none) (hr : qa_ref y k = none) (hj : x = nI j) (hlt : j < qa_ln y k) (hdg : decode cc pc = .ok (.iaload, 1))
    (kk : W p l e R s m args below meth c H locs cells slots Q (F0 m (pc + 1) ls (.int (v k i j) :: rest))) : W p l e R s m args below meth c H locs cells slots Q (F0 m pc ls (.int x :: .ref (qa_a y k i) :: rest)) := by
  obtain ⟨⟨hx, hb, hml, hown, hts⟩, hK⟩ := E
  obtain ⟨g, q, hP, hD, hg, hq⟩ := qa_at hK hC hi
  rw [hg k i hi, qa_cell_a hk hr] at hq
  subst hj
  have hb31 := qa_ln_lt hK.1 k
  refine va_iald hx hb hK.2.1 hP q 0 hq rfl (vp_in_nI hlt hb31) hdg ?_
  rw [nI_clamp (by omega)]
  exact kk
theorem qa_ist {x z : Int32} {j : Nat} (E : qa_E p m c cc nL s args own y) (hC : qa_C y v s H locs) (hi : i < qa_pr y k) (hk : qa_cls k = none) (hr : qa_ref y k = none) (hj : x = nI j) (hlt : j < qa_ln y k) (hdg : decode cc pc = .ok (.iastore, 1))
    (kk : ∀ (H1 : Heap) (locs1 : List Loc), qa_C y (qa_up v k i j z) s H1 locs1 → W p l e R s m args below meth c H1 locs1 cells slots Q (F0 m (pc + 1) ls rest)) : W p l e R s m args below meth c H locs cells slots Q (F0 m pc ls (.int z :: .int x :: .ref (qa_a y k i) :: rest)) := by
  obtain ⟨⟨hx, hb, hml, hown, hts⟩, hK⟩ := E
  obtain ⟨g, q, hP, hD, hg, hq⟩ := qa_at hK hC hi
  have hq' := hq
  rw [hg k i hi, qa_cell_a hk hr] at hq'
  subst hj
  have hb31 := qa_ln_lt hK.1 k
  refine va_iast hx hb hK.2.1 hP hD hC.2 q 0 hq' rfl (vp_in_nI hlt hb31) hdg (fun H1 locs1 hP1 hD1 hS1 => ?_)
  refine kk H1 locs1 (qa_wrote hK hD hg hi hq ?_ hP1 hD1 hS1)
  rw [qa_cell_a hk hr, nI_clamp (by omega)]
  congr 4
  funext a
  simp [upd, qa_up]
theorem qa_ald {x : Int32} {j t k2 : Nat} {C : String} {g0 : Nat → Option Nat} (E : qa_E p m c cc nL s args own y) (hC : qa_C y v s H locs) (hi : i < qa_pr y k) (hk : qa_cls k = none) (hr : qa_ref y k = some (t, g0)) (ht : (qa_tys y)[t]? = some (qa_c y t, .object C)) (h2 : g0 j = some (qa_a y k2 j)) (hj : x = nI j) (hlt : j < qa_ln y k) (hdg : decode cc pc = .ok (.aaload, 1))
    (kk : W p l e R s m args below meth c H locs cells slots Q (F0 m (pc + 1) ls (.ref (qa_a y k2 j) :: rest))) : W p l e R s m args below meth c H locs cells slots Q (F0 m pc ls (.int x :: .ref (qa_a y k i) :: rest)) := by
  obtain ⟨⟨hx, hb, hml, hown, hts⟩, hK⟩ := E
  obtain ⟨g, q, hP, hD, hg, hq⟩ := qa_at hK hC hi
  rw [hg k i hi, qa_cell_r hk hr] at hq
  subst hj
  have hb31 := qa_ln_lt hK.1 k
  refine va_aldq hx hb hK.2.1 hP q t hq ht (vp_in_nI hlt hb31) hdg ?_
  rw [nI_clamp (by omega), h2]
  exact kk
theorem qa_ald2 {x : Int32} {j t k2 : Nat} {g0 : Nat → Option Nat} (E : qa_E p m c cc nL s args own y) (hC : qa_C y v s H locs) (hi : i < qa_pr y k) (hk : qa_cls k = none) (hr : qa_ref y k = some (t, g0)) (ht : (qa_tys y)[t]? = some (qa_c y t, .array .int)) (h2 : g0 j = some (qa_a y k2 j)) (hj : x = nI j) (hlt : j < qa_ln y k) (hdg : decode cc pc = .ok (.aaload, 1))
    (kk : W p l e R s m args below meth c H locs cells slots Q (F0 m (pc + 1) ls (.ref (qa_a y k2 j) :: rest))) : W p l e R s m args below meth c H locs cells slots Q (F0 m pc ls (.int x :: .ref (qa_a y k i) :: rest)) := by
  obtain ⟨⟨hx, hb, hml, hown, hts⟩, hK⟩ := E
  obtain ⟨g, q, hP, hD, hg, hq⟩ := qa_at hK hC hi
  rw [hg k i hi, qa_cell_r hk hr] at hq
  subst hj
  have hb31 := qa_ln_lt hK.1 k
  have hat := hP q _ hq
  refine W.aald (v := .ref (qa_a y k2 j)) (ty := .array .int) hx hb hat ((hK.2.1.2 t _ ht).1 _ _) rfl (fun h => by cases h) ?_ ?_ rfl rfl hdg kk
  · show ¬ (nI j < 0 ∨ (arrV _ _ _).slots.size ≤ _)
    rw [arrV_size]
    exact vp_in_nI hlt hb31
  · show (arrV _ _ _).slots[_]? = _
    rw [nI_clamp (by omega), arrV_read _ _ hlt, h2]
    rfl
theorem qa_len {v0 : Int32} (E : qa_E p m c cc nL s args own y) (hC : qa_C y v s H locs) (hi : i < qa_pr y k) (hk : qa_cls k = none) (hv : nI (qa_ln y k) = v0) (hdg : decode cc pc = .ok (.arraylength, 1))
    (kk : W p l e R s m args below meth c H locs cells slots Q (F0 m (pc + 1) ls (.int v0 :: rest))) : W p l e R s m args below meth c H locs cells slots Q (F0 m pc ls (.ref (qa_a y k i) :: rest)) := by
  obtain ⟨⟨hx, hb, hml, hown, hts⟩, hK⟩ := E
  obtain ⟨g, q, hP, hD, hg, hq⟩ := qa_at hK hC hi
  rw [hg k i hi] at hq
  obtain ⟨t, z, he, ht⟩ := qa_cell_l y v k i hk
  rw [he] at hq
  have ht4 : ∃ ty, (qa_tys y)[t]? = some (qa_c y t, ty) := by
    rcases ht with rfl | ⟨g0, h0⟩
    · exact ⟨.int, rfl⟩
    · exact qa_ref_ty h0
  obtain ⟨ty, hty⟩ := ht4
  exact va_alen hx hb hK.2.1 hP q t hq hty hv hdg kk
/-- what a call of an instance method wants of the tables -/
def qa_LV (own C : String) (index : Nat) (x : MethodName) (bytes : ByteArray) (maxL : Nat) (ret : Option FieldType) (n : Nat) : Prop :=
  Cond.methodLink own index x ∈ qa_T ∧ Cond.instanceMethod x ∈ qa_T ∧ Cond.selects C x x ∈ qa_T ∧ Cond.initialized C ∈ qa_T ∧ Cond.code x bytes maxL ret ∈ qa_T ∧ (x.cls = C ∧ x.cls ≠ "java/lang/invoke/MethodHandle" ∧ x.cls ≠ "java/lang/invoke/VarHandle" ∧ (parseMethodDescriptor x.desc).map (fun d => d.parameters.length) = some n)
def qa_LS (own : String) (index : Nat) (x : MethodName) (bytes : ByteArray) (maxL : Nat) (ret : Option FieldType) (n : Nat) : Prop :=
  Cond.methodLink own index x ∈ qa_T ∧ Cond.static x ∈ qa_T ∧ Cond.initialized x.cls ∈ qa_T ∧ Cond.code x bytes maxL ret ∈ qa_T ∧ (x.cls ≠ "java/lang/invoke/MethodHandle" ∧ x.cls ≠ "java/lang/invoke/VarHandle" ∧ (parseMethodDescriptor x.desc).map (fun d => d.parameters.length) = some n)
def qa_LN (own : String) (index : Nat) (x : MethodName) (host : String) (bytes : ByteArray) (maxL : Nat) (ret : Option FieldType) (n : Nat) : Prop :=
  Cond.methodLinkNest own index x host ∈ qa_Nw ∧ Cond.static x ∈ qa_T ∧ Cond.initialized x.cls ∈ qa_T ∧ Cond.code x bytes maxL ret ∈ qa_T ∧ (x.cls ≠ "java/lang/invoke/MethodHandle" ∧ x.cls ≠ "java/lang/invoke/VarHandle" ∧ (parseMethodDescriptor x.desc).map (fun d => d.parameters.length) = some n)
theorem qa_goodV {C : String} {index : Nat} {x : MethodName} {bytes : ByteArray} {maxL n : Nat} {ret : Option FieldType} (h : qa_LV own C index x bytes maxL ret n) : GoodIn qa_T (wsV own index C x (qa_ws x bytes maxL ret)) := by
  intro w hw
  have hm : w ∈ qa_T := by
    rcases List.mem_append.mp hw with hw | hw
    · simp only [List.mem_cons, List.not_mem_nil, or_false] at hw
      rcases hw with rfl | rfl | rfl | rfl
      · exact h.1
      · exact h.2.1
      · exact h.2.2.1
      · exact h.2.2.2.1
    · rcases List.mem_cons.mp hw with rfl | hw
      · exact h.2.2.2.2.1
      · exact hw
  exact ⟨hm, qa_T_good w hm⟩
theorem qa_goodS {index : Nat} {x : MethodName} {bytes : ByteArray} {maxL n : Nat} {ret : Option FieldType} (h : qa_LS own index x bytes maxL ret n) : GoodIn qa_T (va_wsS own index x (qa_ws x bytes maxL ret)) := by
  intro w hw
  have hm : w ∈ qa_T := by
    rcases List.mem_append.mp hw with hw | hw
    · simp only [List.mem_cons, List.not_mem_nil, or_false] at hw
      rcases hw with rfl | rfl | rfl
      · exact h.1
      · exact h.2.1
      · exact h.2.2.1
    · rcases List.mem_cons.mp hw with rfl | hw
      · exact h.2.2.2.1
      · exact hw
  exact ⟨hm, qa_T_good w hm⟩
theorem qa_goodN {x : MethodName} {bytes : ByteArray} {maxL : Nat} {ret : Option FieldType} (h : Cond.code x bytes maxL ret ∈ qa_T) : GoodIn qa_T (qa_ws x bytes maxL ret) := by
  intro w hw
  have hm : w ∈ qa_T := by
    rcases List.mem_cons.mp hw with rfl | hw
    · exact h
    · exact hw
  exact ⟨hm, qa_T_good w hm⟩
/-- the receiver -/
theorem qa_recv {C : String} {T : u_T} {N ci : Nat} (hK : qa_K y s) (hC : qa_C y v s H locs) (hi : i < qa_pr y k) (hk : qa_cls k = some (ci, N)) (hc : qa_Cl[ci]? = some (C, T, N)) : ∃ cell : Cell, H[qa_a y k i]? = some cell ∧ cell.vm.isStatics = false ∧ s.vm.findClass C = some cell.cls := by
  obtain ⟨g, q, hP, hD, hg, hq⟩ := qa_at hK hC hi
  rw [hg k i hi, qa_cell_o hk] at hq
  exact va_recv hK.2.1 hP hc hq
variable {x : MethodName} {bytes : ByteArray} {maxL n index lv : Nat} {ret : Option FieldType} {As st0 : List Value}
/-- rooms -/
def qa_fit (R : Room) (cells slots lv maxL : Nat) : Prop := lv + 1 ≤ R.frames ∧ 8 + (maxL + 11) + 64 * lv ≤ R.locals ∧ cells ≤ R.cells ∧ slots ≤ R.slots
theorem qa_pV {C : String} {T : u_T} {N ci : Nat} {r : Int32} (E : qa_E p m c cc nL s args own y) (hC : qa_C y v s H locs) (hM : qa_Pu l x bytes maxL ret lv (.ref (qa_a y k i) :: As) (qa_W y v) r) (hi : i < qa_pr y k) (hk : qa_cls k = some (ci, N)) (hc : qa_Cl[ci]? = some (C, T, N)) (L : qa_LV own C index x bytes maxL ret n) (hf : qa_fit R cells slots lv maxL) (hn : As.length = n) (hz : ls.size = nL) (hst : st0 = As.reverse ++ .ref (qa_a y k i) :: rest) (hr : (rest.map fun v => v.category).sum ≤ 8) (hdg : decode cc pc = .ok (.invokevirtual index, 3))
    (kk : W p l e R s m args below meth c H locs cells slots Q (F0 m (pc + 3) ls (.int r :: rest))) : W p l e R s m args below meth c H locs cells slots Q (F0 m pc ls st0) := by
  have run := W.runV (g := F0 m pc ls st0) (below := below) (e := e) (meth := meth) (R := R) (locs := locs) (cells := cells) (slots := slots) (rest := rest) E.1 hM (cwV n E.1.2.2.2.2 (qa_goodV L) rfl rfl rfl L.2.2.2.2.2 ⟨hf.1, hf.2.1⟩)
    ⟨qa_W.blind, qa_recv E.2 hC hi hk hc, fun U hU hW => ⟨rfl, by rw [hU]; exact hC.1, E.2.moved hW⟩⟩ rfl hn hz hst (lv_room hr) hdg ⟨hf.2.2.1, hf.2.2.2⟩
  exact W.callR run kk
theorem qa_pS {r : Int32} (E : qa_E p m c cc nL s args own y) (hC : qa_C y v s H locs) (hM : qa_Pu l x bytes maxL ret lv As (qa_W y v) r) (L : qa_LS own index x bytes maxL ret n) (hf : qa_fit R cells slots lv maxL) (hn : As.length = n) (hz : ls.size = nL) (hst : st0 = As.reverse ++ rest) (hr : (rest.map fun v => v.category).sum ≤ 8) (hdg : decode cc pc = .ok (.invokestatic index, 3))
    (kk : W p l e R s m args below meth c H locs cells slots Q (F0 m (pc + 3) ls (.int r :: rest))) : W p l e R s m args below meth c H locs cells slots Q (F0 m pc ls st0) := by
  have run := W.runS (g := F0 m pc ls st0) (below := below) (e := e) (meth := meth) (R := R) (locs := locs) (cells := cells) (slots := slots) (rest := rest) (H := H) E.1 hM (va_cwS n E.1.2.2.2.2 (qa_goodS L) rfl rfl rfl L.2.2.2.2 ⟨hf.1, hf.2.1⟩)
    ⟨qa_W.blind, fun U hU hW => ⟨rfl, by rw [hU]; exact hC.1, E.2.moved hW⟩⟩ rfl hn hz hst (lv_room hr) hdg ⟨hf.2.2.1, hf.2.2.2⟩
  exact W.callR run kk
/-- a static method that looks at its numbers alone -/
theorem qa_pT {r : Int32} (E : CallFix p m c cc nL s args qa_T own) (hM : qa_Pu l x bytes maxL ret lv As (fun _ => True) r) (L : qa_LS own index x bytes maxL ret n) (hf : qa_fit R cells slots lv maxL) (hn : As.length = n) (hz : ls.size = nL) (hst : st0 = As.reverse ++ rest) (hr : (rest.map fun v => v.category).sum ≤ 8) (hdg : decode cc pc = .ok (.invokestatic index, 3))
    (kk : W p l e R s m args below meth c H locs cells slots Q (F0 m (pc + 3) ls (.int r :: rest))) : W p l e R s m args below meth c H locs cells slots Q (F0 m pc ls st0) := by
  have run := W.runS (g := F0 m pc ls st0) (below := below) (e := e) (meth := meth) (R := R) (locs := locs) (cells := cells) (slots := slots) (rest := rest) (H := H) E hM (va_cwS n E.2.2.2.2 (qa_goodS L) rfl rfl rfl L.2.2.2.2 ⟨hf.1, hf.2.1⟩)
    ⟨qa_true.blind, fun U hU hW => ⟨rfl, trivial⟩⟩ rfl hn hz hst (lv_room hr) hdg ⟨hf.2.2.1, hf.2.2.2⟩
  exact W.callR run kk
theorem qa_pN {host : String} {r : Int32} (E : qa_E p m c cc nL s args own y) (hM : qa_Pu l x bytes maxL ret lv As (fun _ => True) r) (L : qa_LN own index x host bytes maxL ret n) (hf : qa_fit R cells slots lv maxL) (hn : As.length = n) (hz : ls.size = nL) (hst : st0 = As.reverse ++ rest) (hr : (rest.map fun v => v.category).sum ≤ 8) (hdg : decode cc pc = .ok (.invokestatic index, 3))
    (kk : W p l e R s m args below meth c H locs cells slots Q (F0 m (pc + 3) ls (.int r :: rest))) : W p l e R s m args below meth c H locs cells slots Q (F0 m pc ls st0) := by
  have hts := E.1.2.2.2.2
  have run := va_runSN (g := F0 m pc ls st0) (below := below) (e := e) (meth := meth) (R := R) (locs := locs) (cells := cells) (slots := slots) (rest := rest) (H := H) E.1 hM ⟨va_cnB (host := host) (Ts := qa_T) (R := R) n hts (qa_goodN L.2.2.2.1) rfl rfl rfl (E.2.2.2 _ L.1) (hts _ L.2.2.1) L.2.2.2.2 ⟨hf.1, hf.2.1⟩, hts _ L.2.1, trivial⟩
    ⟨qa_true.blind, fun U hU hW => ⟨rfl, trivial⟩⟩ rfl hn hz hst (lv_room hr) hdg ⟨hf.2.2.1, hf.2.2.2⟩
  exact W.callR run.run kk
/-- the same over the memory -/
theorem qa_pNW {host : String} {r : Int32} (E : qa_E p m c cc nL s args own y) (hC : qa_C y v s H locs) (hM : qa_Pu l x bytes maxL ret lv As (qa_W y v) r) (L : qa_LN own index x host bytes maxL ret n) (hf : qa_fit R cells slots lv maxL) (hn : As.length = n) (hz : ls.size = nL) (hst : st0 = As.reverse ++ rest) (hr : (rest.map fun v => v.category).sum ≤ 8) (hdg : decode cc pc = .ok (.invokestatic index, 3))
    (kk : W p l e R s m args below meth c H locs cells slots Q (F0 m (pc + 3) ls (.int r :: rest))) : W p l e R s m args below meth c H locs cells slots Q (F0 m pc ls st0) := by
  have hts := E.1.2.2.2.2
  have run := va_runSN (g := F0 m pc ls st0) (below := below) (e := e) (meth := meth) (R := R) (locs := locs) (cells := cells) (slots := slots) (rest := rest) (H := H) E.1 hM ⟨va_cnB (host := host) (Ts := qa_T) (R := R) n hts (qa_goodN L.2.2.2.1) rfl rfl rfl (E.2.2.2 _ L.1) (hts _ L.2.2.1) L.2.2.2.2 ⟨hf.1, hf.2.1⟩, hts _ L.2.1, trivial⟩
    ⟨qa_W.blind, fun U hU hW => ⟨rfl, by rw [hU]; exact hC.1, E.2.moved hW⟩⟩ rfl hn hz hst (lv_room hr) hdg ⟨hf.2.2.1, hf.2.2.2⟩
  exact W.callR run.run kk
/-- a call that changes the memory -/
theorem qa_mV {C : String} {T : u_T} {N ci : Nat} {post : Int32 → qa_M → Prop} (E : qa_E p m c cc nL s args own y) (hC : qa_C y v s H locs) (hM : qa_Mi l x bytes maxL ret lv (.ref (qa_a y k i) :: As) y v post) (hi : i < qa_pr y k) (hk : qa_cls k = some (ci, N)) (hc : qa_Cl[ci]? = some (C, T, N)) (L : qa_LV own C index x bytes maxL ret n) (hf : qa_fit R cells slots lv maxL) (hn : As.length = n) (hz : ls.size = nL) (hst : st0 = As.reverse ++ .ref (qa_a y k i) :: rest) (hr : (rest.map fun v => v.category).sum ≤ 8) (hdg : decode cc pc = .ok (.invokevirtual index, 3))
    (kk : ∀ (r : Int32) (u : qa_M) (H1 : Heap) (locs1 : List Loc), post r u → qa_C y u s H1 locs1 → W p l e R s m args below meth c H1 locs1 cells slots Q (F0 m (pc + 3) ls (.int r :: rest))) : W p l e R s m args below meth c H locs cells slots Q (F0 m pc ls st0) := by
  refine va_calli (va_runV (g := F0 m pc ls st0) (rest := rest) E.1 hM (cwV n E.1.2.2.2.2 (qa_goodV L) rfl rfl rfl L.2.2.2.2.2 ⟨hf.1, hf.2.1⟩)
    ⟨qa_W.blind, qa_recv E.2 hC hi hk hc, fun U hU hW => ⟨rfl, by rw [hU]; exact hC.1, E.2.moved hW⟩⟩ rfl hn hz hst (lv_room hr) hdg ⟨hf.2.2.1, hf.2.2.2⟩) hC.2 (fun q _ h => h) (fun q h => h) (fun r u t H1 locs1 ht hvm hp hB hz1 hk1 hS1 => ?_)
  exact kk r u H1 locs1 hp ⟨by rw [← ht]; exact hB.1, hS1⟩
theorem qa_mVv {C : String} {T : u_T} {N ci : Nat} {post : qa_M → Prop} (E : qa_E p m c cc nL s args own y) (hC : qa_C y v s H locs) (hM : qa_Mv l x bytes maxL lv (.ref (qa_a y k i) :: As) y v post) (hi : i < qa_pr y k) (hk : qa_cls k = some (ci, N)) (hc : qa_Cl[ci]? = some (C, T, N)) (L : qa_LV own C index x bytes maxL none n) (hf : qa_fit R cells slots lv maxL) (hn : As.length = n) (hz : ls.size = nL) (hst : st0 = As.reverse ++ .ref (qa_a y k i) :: rest) (hr : (rest.map fun v => v.category).sum ≤ 8) (hdg : decode cc pc = .ok (.invokevirtual index, 3))
    (kk : ∀ (u : qa_M) (H1 : Heap) (locs1 : List Loc), post u → qa_C y u s H1 locs1 → W p l e R s m args below meth c H1 locs1 cells slots Q (F0 m (pc + 3) ls rest)) : W p l e R s m args below meth c H locs cells slots Q (F0 m pc ls st0) := by
  refine va_callv (va_runV (g := F0 m pc ls st0) (rest := rest) E.1 hM (cwV n E.1.2.2.2.2 (qa_goodV L) rfl rfl rfl L.2.2.2.2.2 ⟨hf.1, hf.2.1⟩)
    ⟨qa_W.blind, qa_recv E.2 hC hi hk hc, fun U hU hW => ⟨rfl, by rw [hU]; exact hC.1, E.2.moved hW⟩⟩ rfl hn hz hst (lv_room hr) hdg ⟨hf.2.2.1, hf.2.2.2⟩) hC.2 (fun q _ h => h) (fun q h => h) (fun u t H1 locs1 ht hvm hp hB hz1 hk1 hS1 => ?_)
  exact kk u H1 locs1 hp ⟨by rw [← ht]; exact hB.1, hS1⟩
/-- returns -/
theorem qa_iret {r z : Int32} (hx : p.tables.exec = Jvm.exec) (hb : c.code = cc) (hr : meth.sig.returnType = some .int) (hlocks : meth.locks = false) (he : z = r) (hdg : decode cc pc = .ok (.ireturn, 1)) : W p l e R s m args below meth c s.heap [] cells slots (MQ below (QcRead r) args s cells slots (fun _ => False)) (F0 m pc ls [.int z]) := by
  subst he
  exact W.iret hx hb hr (fun t ht _ => ⟨rfl, ht⟩) (fun q h => by cases h) hdg
theorem qa_zret {r z : Int32} (hx : p.tables.exec = Jvm.exec) (hb : c.code = cc) (hr : meth.sig.returnType = some .boolean) (hlocks : meth.locks = false) (he : z = r) (hn : narrow .boolean (.int z) = .int z) (hdg : decode cc pc = .ok (.ireturn, 1)) : W p l e R s m args below meth c s.heap [] cells slots (MQ below (QcRead r) args s cells slots (fun _ => False)) (F0 m pc ls [.int z]) := by
  subst he
  exact W.zret hx hb hr hn (fun t ht _ => ⟨rfl, ht⟩) (fun q h => by cases h) hdg
theorem qa_mret {post : Int32 → qa_M → Prop} {z : Int32} (E : qa_E p m c cc nL s args own y) (hC : qa_C y v s H locs) (hr : meth.sig.returnType = some .int) (hlocks : meth.locks = false) (he : post z v) (hdg : decode cc pc = .ok (.ireturn, 1)) : W p l e R s m args below meth c H locs cells slots (MQ below (va_Qi post (fun u t => qa_W y u t) (qa_A y)) args s cells slots (qa_A y)) (F0 m pc ls [.int z]) :=
  W.iret E.1.1 E.1.2.1 hr (fun t ht hW => ⟨⟨z, v, rfl, he, by rw [ht]; exact hC.1, E.2.moved hW⟩, hC.2.F ht⟩) hC.2.2.2 hdg
theorem qa_mzret {post : Int32 → qa_M → Prop} {z : Int32} (E : qa_E p m c cc nL s args own y) (hC : qa_C y v s H locs) (hr : meth.sig.returnType = some .boolean) (hlocks : meth.locks = false) (he : post z v) (hn : narrow .boolean (.int z) = .int z) (hdg : decode cc pc = .ok (.ireturn, 1)) : W p l e R s m args below meth c H locs cells slots (MQ below (va_Qi post (fun u t => qa_W y u t) (qa_A y)) args s cells slots (qa_A y)) (F0 m pc ls [.int z]) :=
  W.zret E.1.1 E.1.2.1 hr hn (fun t ht hW => ⟨⟨z, v, rfl, he, by rw [ht]; exact hC.1, E.2.moved hW⟩, hC.2.F ht⟩) hC.2.2.2 hdg
theorem qa_mvret {post : qa_M → Prop} (E : qa_E p m c cc nL s args own y) (hC : qa_C y v s H locs) (hr : meth.sig.returnType = none) (hlocks : meth.locks = false) (he : post v) (hdg : decode cc pc = .ok (.return_, 1)) : W p l e R s m args below meth c H locs cells slots (MQ below (va_Qv post (fun u t => qa_W y u t) (qa_A y)) args s cells slots (qa_A y)) (F0 m pc ls []) :=
  W.vret E.1.1 E.1.2.1 hr (fun t ht hW => ⟨⟨v, rfl, he, by rw [ht]; exact hC.1, E.2.moved hW⟩, hC.2.F ht⟩) hC.2.2.2 hdg
end QA
/-! a method's beginning -/
theorem qa_ofPu {l : Launch} {x : MethodName} {bytes : ByteArray} {maxL n : Nat} {ret : Option FieldType} {av : List Value} {Pre : State → Prop} {r : Int32} (hy : plainFor x = true) (hls : (lg_sl av).length ≤ maxL)
    (body : ∀ (p : Program) (e : Env) (s : State) (m : MethodId) (below : List Frame) (meth : Method) (c : Code) (ls : Array Slot), CallFix p m c bytes maxL s av.toArray qa_T x.cls → meth.sig.returnType = ret → meth.locks = false → Pre s → lv_has ls maxL (lv_args 0 av) → W p l e (qa_R n) s m av.toArray below meth c s.heap [] 0 0 (MQ below (QcRead r) av.toArray s 0 0 (fun _ => False)) (F0 m 0 ls [])) : qa_Pu l x bytes maxL ret n av Pre r := by
  refine va_MetF (cc := bytes) (maxL := maxL) (ret := ret) hy rfl ?_
  intro p e s m args below meth c s₁ B hml hv
  obtain ⟨rfl, hpre⟩ := hv
  have hl := lv_entry av (n := maxL) hls
  rw [lg_entry_eq]
  exact body p e s m below meth c _ ⟨B.exec, B.bytes, hml, findClass_of_methodNamed B.named, fun w hw => atoms_spec (ws := qa_ws x bytes maxL ret) B.pre w (List.mem_cons_of_mem _ hw)⟩ B.returns B.notSynchronized hpre hl
theorem qa_ofMi {l : Launch} {x : MethodName} {bytes : ByteArray} {maxL n : Nat} {ret : Option FieldType} {av : List Value} {y : qa_L} {v : qa_M} {post : Int32 → qa_M → Prop} (hy : plainFor x = true) (hls : (lg_sl av).length ≤ maxL)
    (body : ∀ (p : Program) (e : Env) (s : State) (m : MethodId) (below : List Frame) (meth : Method) (c : Code) (ls : Array Slot), qa_E p m c bytes maxL s av.toArray x.cls y → meth.sig.returnType = ret → meth.locks = false → qa_C y v s s.heap [] → lv_has ls maxL (lv_args 0 av) → W p l e (qa_R n) s m av.toArray below meth c s.heap [] 0 0 (MQ below (va_Qi post (fun u t => qa_W y u t) (qa_A y)) av.toArray s 0 0 (qa_A y)) (F0 m 0 ls [])) : qa_Mi l x bytes maxL ret n av y v post := by
  refine va_MetF (cc := bytes) (maxL := maxL) (ret := ret) hy rfl ?_
  intro p e s m args below meth c s₁ B hml hv
  obtain ⟨rfl, hpre⟩ := hv
  have hl := lv_entry av (n := maxL) hls
  rw [lg_entry_eq]
  exact body p e s m below meth c _ ⟨⟨B.exec, B.bytes, hml, findClass_of_methodNamed B.named, fun w hw => atoms_spec (ws := qa_ws x bytes maxL ret) B.pre w (List.mem_cons_of_mem _ hw)⟩, hpre.2⟩ B.returns B.notSynchronized ⟨hpre.1, va_S.rf⟩ hl
theorem qa_ofMv {l : Launch} {x : MethodName} {bytes : ByteArray} {maxL n : Nat} {av : List Value} {y : qa_L} {v : qa_M} {post : qa_M → Prop} (hy : plainFor x = true) (hls : (lg_sl av).length ≤ maxL)
    (body : ∀ (p : Program) (e : Env) (s : State) (m : MethodId) (below : List Frame) (meth : Method) (c : Code) (ls : Array Slot), qa_E p m c bytes maxL s av.toArray x.cls y → meth.sig.returnType = none → meth.locks = false → qa_C y v s s.heap [] → lv_has ls maxL (lv_args 0 av) → W p l e (qa_R n) s m av.toArray below meth c s.heap [] 0 0 (MQ below (va_Qv post (fun u t => qa_W y u t) (qa_A y)) av.toArray s 0 0 (qa_A y)) (F0 m 0 ls [])) : qa_Mv l x bytes maxL n av y v post := by
  refine va_MetF (cc := bytes) (maxL := maxL) (ret := none) hy rfl ?_
  intro p e s m args below meth c s₁ B hml hv
  obtain ⟨rfl, hpre⟩ := hv
  have hl := lv_entry av (n := maxL) hls
  rw [lg_entry_eq]
  exact body p e s m below meth c _ ⟨⟨B.exec, B.bytes, hml, findClass_of_methodNamed B.named, fun w hw => atoms_spec (ws := qa_ws x bytes maxL none) B.pre w (List.mem_cons_of_mem _ hw)⟩, hpre.2⟩ B.returns B.notSynchronized ⟨hpre.1, va_S.rf⟩ hl
end
section
def y_VF_init : MethodName := ⟨"VotedFrames", "<init>", "(III)V"⟩
abbrev b_VF_init : ByteArray := prog_1_method_1_code
theorem w_VF_init : Cond.code y_VF_init b_VF_init 6 none ∈ qa_T := qa_m1 13 (by decide +kernel) rfl
def y_VF_clamp : MethodName := ⟨"VotedFrames", "clamp", "(III)I"⟩
abbrev b_VF_clamp : ByteArray := prog_1_method_43_code
theorem w_VF_clamp : Cond.code y_VF_clamp b_VF_clamp 3 (some .int) ∈ qa_T := qa_m1 19 (by decide +kernel) rfl
def y_JM_min : MethodName := ⟨"java/lang/Math", "min", "(II)I"⟩
abbrev b_JM_min : ByteArray := prog_9_method_69_code
theorem w_JM_min : Cond.code y_JM_min b_JM_min 2 (some .int) ∈ qa_T := qa_m1 22 (by decide +kernel) rfl
def y_JM_max : MethodName := ⟨"java/lang/Math", "max", "(II)I"⟩
abbrev b_JM_max : ByteArray := prog_9_method_65_code
theorem w_JM_max : Cond.code y_JM_max b_JM_max 2 (some .int) ∈ qa_T := qa_m1 25 (by decide +kernel) rfl
def y_VF_within : MethodName := ⟨"VotedFrames", "within", "(III)Z"⟩
abbrev b_VF_within : ByteArray := prog_1_method_41_code
theorem w_VF_within : Cond.code y_VF_within b_VF_within 3 (some .boolean) ∈ qa_T := qa_m1 28 (by decide +kernel) rfl
def y_VF_madeNodes : MethodName := ⟨"VotedFrames", "madeNodes", "(I)[LVotedFrames$Node;"⟩
abbrev b_VF_madeNodes : ByteArray := prog_1_method_22_code
theorem w_VF_madeNodes : Cond.code y_VF_madeNodes b_VF_madeNodes 3 (some (.array (.object "VotedFrames$Node"))) ∈ qa_T := qa_m1 31 (by decide +kernel) rfl
def y_ND_init : MethodName := ⟨"VotedFrames$Node", "<init>", "(II)V"⟩
abbrev b_ND_init : ByteArray := prog_2_method_1_code
theorem w_ND_init : Cond.code y_ND_init b_ND_init 3 none ∈ qa_T := qa_m1 37 (by decide +kernel) rfl
def y_RL_init : MethodName := ⟨"VotedFrames$Relay", "<init>", "([LVotedFrames$Node;I)V"⟩
abbrev b_RL_init : ByteArray := prog_3_method_1_code
theorem w_RL_init : Cond.code y_RL_init b_RL_init 5 none ∈ qa_T := qa_m1 103 (by decide +kernel) rfl
def y_VF_madeTasks : MethodName := ⟨"VotedFrames", "madeTasks", "()[LVotedFrames$Task;"⟩
abbrev b_VF_madeTasks : ByteArray := prog_1_method_23_code
theorem w_VF_madeTasks : Cond.code y_VF_madeTasks b_VF_madeTasks 2 (some (.array (.object "VotedFrames$Task"))) ∈ qa_T := qa_m1 134 (by decide +kernel) rfl
def y_TK_init : MethodName := ⟨"VotedFrames$Task", "<init>", "()V"⟩
abbrev b_TK_init : ByteArray := prog_5_method_1_code
theorem w_TK_init : Cond.code y_TK_init b_TK_init 1 none ∈ qa_T := qa_m1 140 (by decide +kernel) rfl
def y_SM_init : MethodName := ⟨"VotedFrames$StackMachine", "<init>", "()V"⟩
abbrev b_SM_init : ByteArray := prog_4_method_1_code
theorem w_SM_init : Cond.code y_SM_init b_SM_init 1 none ∈ qa_T := qa_m1 167 (by decide +kernel) rfl
def y_VF_clock : MethodName := ⟨"VotedFrames", "clock", "(III)Z"⟩
abbrev b_VF_clock : ByteArray := prog_1_method_2_code
theorem w_VF_clock : Cond.code y_VF_clock b_VF_clock 4 (some .boolean) ∈ qa_T := qa_m1 216 (by decide +kernel) rfl
def y_VF_isNode : MethodName := ⟨"VotedFrames", "isNode", "(I)Z"⟩
abbrev b_VF_isNode : ByteArray := prog_1_method_38_code
theorem w_VF_isNode : Cond.code y_VF_isNode b_VF_isNode 2 (some .boolean) ∈ qa_T := qa_m1 220 (by decide +kernel) rfl
def y_VF_isAtMost : MethodName := ⟨"VotedFrames", "isAtMost", "(II)Z"⟩
abbrev b_VF_isAtMost : ByteArray := prog_1_method_42_code
theorem w_VF_isAtMost : Cond.code y_VF_isAtMost b_VF_isAtMost 2 (some .boolean) ∈ qa_T := qa_m1 223 (by decide +kernel) rfl
def y_VF_link : MethodName := ⟨"VotedFrames", "link", "(IIII)Z"⟩
abbrev b_VF_link : ByteArray := prog_1_method_3_code
theorem w_VF_link : Cond.code y_VF_link b_VF_link 5 (some .boolean) ∈ qa_T := qa_m1 227 (by decide +kernel) rfl
def y_VF_sensor : MethodName := ⟨"VotedFrames", "sensor", "(II)Z"⟩
abbrev b_VF_sensor : ByteArray := prog_1_method_4_code
theorem w_VF_sensor : Cond.code y_VF_sensor b_VF_sensor 3 (some .boolean) ∈ qa_T := qa_m1 231 (by decide +kernel) rfl
def y_VF_fault : MethodName := ⟨"VotedFrames", "fault", "(III)Z"⟩
abbrev b_VF_fault : ByteArray := prog_1_method_5_code
theorem w_VF_fault : Cond.code y_VF_fault b_VF_fault 4 (some .boolean) ∈ qa_T := qa_m1 235 (by decide +kernel) rfl
def y_VF_code : MethodName := ⟨"VotedFrames", "code", "(III)Z"⟩
abbrev b_VF_code : ByteArray := prog_1_method_6_code
theorem w_VF_code : Cond.code y_VF_code b_VF_code 4 (some .boolean) ∈ qa_T := qa_m1 239 (by decide +kernel) rfl
def y_VF_isTask : MethodName := ⟨"VotedFrames", "isTask", "(I)Z"⟩
abbrev b_VF_isTask : ByteArray := prog_1_method_40_code
theorem w_VF_isTask : Cond.code y_VF_isTask b_VF_isTask 1 (some .boolean) ∈ qa_T := qa_m2 2 (by decide +kernel) rfl
def y_VF_fitsInstruction : MethodName := ⟨"VotedFrames", "fitsInstruction", "(II)Z"⟩
abbrev b_VF_fitsInstruction : ByteArray := prog_1_method_39_code
theorem w_VF_fitsInstruction : Cond.code y_VF_fitsInstruction b_VF_fitsInstruction 3 (some .boolean) ∈ qa_T := qa_m2 6 (by decide +kernel) rfl
def y_TK_append : MethodName := ⟨"VotedFrames$Task", "append", "(II)Z"⟩
abbrev b_TK_append : ByteArray := prog_5_method_2_code
theorem w_TK_append : Cond.code y_TK_append b_TK_append 3 (some .boolean) ∈ qa_T := qa_m2 10 (by decide +kernel) rfl
def y_VF_clear : MethodName := ⟨"VotedFrames", "clear", "(I)I"⟩
abbrev b_VF_clear : ByteArray := prog_1_method_7_code
theorem w_VF_clear : Cond.code y_VF_clear b_VF_clear 2 (some .int) ∈ qa_T := qa_m2 14 (by decide +kernel) rfl
def y_TK_empty : MethodName := ⟨"VotedFrames$Task", "empty", "()I"⟩
abbrev b_TK_empty : ByteArray := prog_5_method_3_code
theorem w_TK_empty : Cond.code y_TK_empty b_TK_empty 2 (some .int) ∈ qa_T := qa_m2 18 (by decide +kernel) rfl
def y_VF_due : MethodName := ⟨"VotedFrames", "due", "(III)Z"⟩
abbrev b_VF_due : ByteArray := prog_1_method_8_code
theorem w_VF_due : Cond.code y_VF_due b_VF_due 4 (some .boolean) ∈ qa_T := qa_m2 22 (by decide +kernel) rfl
def y_VF_run : MethodName := ⟨"VotedFrames", "run", "(I)I"⟩
abbrev b_VF_run : ByteArray := prog_1_method_9_code
theorem w_VF_run : Cond.code y_VF_run b_VF_run 4 (some .int) ∈ qa_T := qa_m2 26 (by decide +kernel) rfl
def y_VF_runFrame : MethodName := ⟨"VotedFrames", "runFrame", "()I"⟩
abbrev b_VF_runFrame : ByteArray := prog_1_method_24_code
theorem w_VF_runFrame : Cond.code y_VF_runFrame b_VF_runFrame 2 (some .int) ∈ qa_T := qa_m2 30 (by decide +kernel) rfl
def y_VF_openLines : MethodName := ⟨"VotedFrames", "openLines", "()V"⟩
abbrev b_VF_openLines : ByteArray := prog_1_method_25_code
theorem w_VF_openLines : Cond.code y_VF_openLines b_VF_openLines 4 none ∈ qa_T := qa_m2 34 (by decide +kernel) rfl
def y_ND_canHear : MethodName := ⟨"VotedFrames$Node", "canHear", "(LVotedFrames$Node;I)Z"⟩
abbrev b_ND_canHear : ByteArray := prog_2_method_4_code
theorem w_ND_canHear : Cond.code y_ND_canHear b_ND_canHear 3 (some .boolean) ∈ qa_T := qa_m2 38 (by decide +kernel) rfl
def y_VF_contains : MethodName := ⟨"VotedFrames", "contains", "(II)Z"⟩
abbrev b_VF_contains : ByteArray := prog_1_method_44_code
theorem w_VF_contains : Cond.code y_VF_contains b_VF_contains 2 (some .boolean) ∈ qa_T := qa_m2 41 (by decide +kernel) rfl
def y_RL_beginFrame : MethodName := ⟨"VotedFrames$Relay", "beginFrame", "(I)V"⟩
abbrev b_RL_beginFrame : ByteArray := prog_3_method_2_code
theorem w_RL_beginFrame : Cond.code y_RL_beginFrame b_RL_beginFrame 3 none ∈ qa_T := qa_m2 46 (by decide +kernel) rfl
def y_ND_bearable : MethodName := ⟨"VotedFrames$Node", "bearable", "(I)I"⟩
abbrev b_ND_bearable : ByteArray := prog_2_method_3_code
theorem w_ND_bearable : Cond.code y_ND_bearable b_ND_bearable 2 (some .int) ∈ qa_T := qa_m2 50 (by decide +kernel) rfl
def y_ND_memberCount : MethodName := ⟨"VotedFrames$Node", "memberCount", "()I"⟩
abbrev b_ND_memberCount : ByteArray := prog_2_method_2_code
theorem w_ND_memberCount : Cond.code y_ND_memberCount b_ND_memberCount 1 (some .int) ∈ qa_T := qa_m2 54 (by decide +kernel) rfl
def y_JI_bitCount : MethodName := ⟨"java/lang/Integer", "bitCount", "(I)I"⟩
abbrev b_JI_bitCount : ByteArray := prog_8_method_49_code
theorem w_JI_bitCount : Cond.code y_JI_bitCount b_JI_bitCount 1 (some .int) ∈ qa_T := qa_m2 57 (by decide +kernel) rfl
def y_VF_agreeOnSensors : MethodName := ⟨"VotedFrames", "agreeOnSensors", "()V"⟩
abbrev b_VF_agreeOnSensors : ByteArray := prog_1_method_26_code
theorem w_VF_agreeOnSensors : Cond.code y_VF_agreeOnSensors b_VF_agreeOnSensors 3 none ∈ qa_T := qa_m2 66 (by decide +kernel) rfl
def y_RL_spreadOut : MethodName := ⟨"VotedFrames$Relay", "spreadOut", "(II)V"⟩
abbrev b_RL_spreadOut : ByteArray := prog_3_method_3_code
theorem w_RL_spreadOut : Cond.code y_RL_spreadOut b_RL_spreadOut 3 none ∈ qa_T := qa_m2 70 (by decide +kernel) rfl
def y_RL_send : MethodName := ⟨"VotedFrames$Relay", "send", "(IIIII)V"⟩
abbrev b_RL_send : ByteArray := prog_3_method_8_code
theorem w_RL_send : Cond.code y_RL_send b_RL_send 7 none ∈ qa_T := qa_m2 74 (by decide +kernel) rfl
def y_RL_placeOf : MethodName := ⟨"VotedFrames$Relay", "placeOf", "(II)I"⟩
abbrev b_RL_placeOf : ByteArray := prog_3_method_6_code
theorem w_RL_placeOf : Cond.code y_RL_placeOf b_RL_placeOf 3 (some .int) ∈ qa_T := qa_m2 79 (by decide +kernel) rfl
def y_RL_got : MethodName := ⟨"VotedFrames$Relay", "got", "(III)I"⟩
abbrev b_RL_got : ByteArray := prog_3_method_7_code
theorem w_RL_got : Cond.code y_RL_got b_RL_got 4 (some .int) ∈ qa_T := qa_m2 83 (by decide +kernel) rfl
def y_ND_says : MethodName := ⟨"VotedFrames$Node", "says", "(III)I"⟩
abbrev b_ND_says : ByteArray := prog_2_method_5_code
theorem w_ND_says : Cond.code y_ND_says b_ND_says 4 (some .int) ∈ qa_T := qa_m2 87 (by decide +kernel) rfl
def y_RL_follow : MethodName := ⟨"VotedFrames$Relay", "follow", "(II)I"⟩
abbrev b_RL_follow : ByteArray := prog_3_method_5_code
theorem w_RL_follow : Cond.code y_RL_follow b_RL_follow 3 (some .int) ∈ qa_T := qa_m2 91 (by decide +kernel) rfl
def y_RL_agreedBy : MethodName := ⟨"VotedFrames$Relay", "agreedBy", "(I)I"⟩
abbrev b_RL_agreedBy : ByteArray := prog_3_method_4_code
theorem w_RL_agreedBy : Cond.code y_RL_agreedBy b_RL_agreedBy 3 (some .int) ∈ qa_T := qa_m2 95 (by decide +kernel) rfl
def y_RL_make : MethodName := ⟨"VotedFrames$Relay", "make", "(LVotedFrames$Node;III)I"⟩
abbrev b_RL_make : ByteArray := prog_3_method_9_code
theorem w_RL_make : Cond.code y_RL_make b_RL_make 10 (some .int) ∈ qa_T := qa_m2 99 (by decide +kernel) rfl
def y_VF_majorityPlace : MethodName := ⟨"VotedFrames", "majorityPlace", "([III)I"⟩
abbrev b_VF_majorityPlace : ByteArray := prog_1_method_45_code
theorem w_VF_majorityPlace : Cond.code y_VF_majorityPlace b_VF_majorityPlace 6 (some .int) ∈ qa_T := qa_m2 102 (by decide +kernel) rfl
def y_VF_runDueTasks : MethodName := ⟨"VotedFrames", "runDueTasks", "()V"⟩
abbrev b_VF_runDueTasks : ByteArray := prog_1_method_27_code
theorem w_VF_runDueTasks : Cond.code y_VF_runDueTasks b_VF_runDueTasks 4 none ∈ qa_T := qa_m2 106 (by decide +kernel) rfl
def y_VF_leastCorrect : MethodName := ⟨"VotedFrames", "leastCorrect", "()I"⟩
abbrev b_VF_leastCorrect : ByteArray := prog_1_method_37_code
theorem w_VF_leastCorrect : Cond.code y_VF_leastCorrect b_VF_leastCorrect 2 (some .int) ∈ qa_T := qa_m2 110 (by decide +kernel) rfl
def y_TK_isDueIn : MethodName := ⟨"VotedFrames$Task", "isDueIn", "(I)Z"⟩
abbrev b_TK_isDueIn : ByteArray := prog_5_method_4_code
theorem w_TK_isDueIn : Cond.code y_TK_isDueIn b_TK_isDueIn 2 (some .boolean) ∈ qa_T := qa_m2 114 (by decide +kernel) rfl
def y_VF_runOnAllNodes : MethodName := ⟨"VotedFrames", "runOnAllNodes", "(I)V"⟩
abbrev b_VF_runOnAllNodes : ByteArray := prog_1_method_28_code
theorem w_VF_runOnAllNodes : Cond.code y_VF_runOnAllNodes b_VF_runOnAllNodes 3 none ∈ qa_T := qa_m2 118 (by decide +kernel) rfl
def y_SM_resultOf : MethodName := ⟨"VotedFrames$StackMachine", "resultOf", "(LVotedFrames$Task;[I[I)I"⟩
abbrev b_SM_resultOf : ByteArray := prog_4_method_2_code
theorem w_SM_resultOf : Cond.code y_SM_resultOf b_SM_resultOf 11 (some .int) ∈ qa_T := qa_m2 122 (by decide +kernel) rfl
def y_SM_refusalOf : MethodName := ⟨"VotedFrames$StackMachine", "refusalOf", "(I)I"⟩
abbrev b_SM_refusalOf : ByteArray := prog_4_method_3_code
theorem w_SM_refusalOf : Cond.code y_SM_refusalOf b_SM_refusalOf 3 (some .int) ∈ qa_T := qa_m2 126 (by decide +kernel) rfl
def y_SM_needs : MethodName := ⟨"VotedFrames$StackMachine", "needs", "(I)I"⟩
abbrev b_SM_needs : ByteArray := prog_4_method_4_code
theorem w_SM_needs : Cond.code y_SM_needs b_SM_needs 1 (some .int) ∈ qa_T := qa_m2 129 (by decide +kernel) rfl
def y_SM_pop : MethodName := ⟨"VotedFrames$StackMachine", "pop", "()I"⟩
abbrev b_SM_pop : ByteArray := prog_4_method_8_code
theorem w_SM_pop : Cond.code y_SM_pop b_SM_pop 1 (some .int) ∈ qa_T := qa_m2 136 (by decide +kernel) rfl
def y_SM_combine : MethodName := ⟨"VotedFrames$StackMachine", "combine", "(III)I"⟩
abbrev b_SM_combine : ByteArray := prog_4_method_6_code
theorem w_SM_combine : Cond.code y_SM_combine b_SM_combine 3 (some .int) ∈ qa_T := qa_m2 139 (by decide +kernel) rfl
def y_JM_floorDiv : MethodName := ⟨"java/lang/Math", "floorDiv", "(II)I"⟩
abbrev b_JM_floorDiv : ByteArray := prog_9_method_47_code
theorem w_JM_floorDiv : Cond.code y_JM_floorDiv b_JM_floorDiv 3 (some .int) ∈ qa_T := qa_m2 142 (by decide +kernel) rfl
def y_SM_push : MethodName := ⟨"VotedFrames$StackMachine", "push", "(I)V"⟩
abbrev b_SM_push : ByteArray := prog_4_method_7_code
theorem w_SM_push : Cond.code y_SM_push b_SM_push 2 none ∈ qa_T := qa_m2 146 (by decide +kernel) rfl
def y_SM_fetch : MethodName := ⟨"VotedFrames$StackMachine", "fetch", "(II[I[I)I"⟩
abbrev b_SM_fetch : ByteArray := prog_4_method_5_code
theorem w_SM_fetch : Cond.code y_SM_fetch b_SM_fetch 5 (some .int) ∈ qa_T := qa_m2 150 (by decide +kernel) rfl
def y_VF_vote : MethodName := ⟨"VotedFrames", "vote", "(LVotedFrames$Node;I)V"⟩
abbrev b_VF_vote : ByteArray := prog_1_method_29_code
theorem w_VF_vote : Cond.code y_VF_vote b_VF_vote 5 none ∈ qa_T := qa_m2 154 (by decide +kernel) rfl
def y_VF_fillBallot : MethodName := ⟨"VotedFrames", "fillBallot", "(LVotedFrames$Node;)I"⟩
abbrev b_VF_fillBallot : ByteArray := prog_1_method_30_code
theorem w_VF_fillBallot : Cond.code y_VF_fillBallot b_VF_fillBallot 4 (some .int) ∈ qa_T := qa_m2 158 (by decide +kernel) rfl
def y_VF_dissentersFrom : MethodName := ⟨"VotedFrames", "dissentersFrom", "(ILVotedFrames$Node;)I"⟩
abbrev b_VF_dissentersFrom : ByteArray := prog_1_method_31_code
theorem w_VF_dissentersFrom : Cond.code y_VF_dissentersFrom b_VF_dissentersFrom 5 (some .int) ∈ qa_T := qa_m2 166 (by decide +kernel) rfl
def y_VF_agreeOnAccused : MethodName := ⟨"VotedFrames", "agreeOnAccused", "()V"⟩
abbrev b_VF_agreeOnAccused : ByteArray := prog_1_method_32_code
theorem w_VF_agreeOnAccused : Cond.code y_VF_agreeOnAccused b_VF_agreeOnAccused 4 none ∈ qa_T := qa_m2 170 (by decide +kernel) rfl
def y_VF_strikeOut : MethodName := ⟨"VotedFrames", "strikeOut", "()I"⟩
abbrev b_VF_strikeOut : ByteArray := prog_1_method_33_code
theorem w_VF_strikeOut : Cond.code y_VF_strikeOut b_VF_strikeOut 4 (some .int) ∈ qa_T := qa_m2 174 (by decide +kernel) rfl
def y_VF_convictedBy : MethodName := ⟨"VotedFrames", "convictedBy", "(LVotedFrames$Node;)I"⟩
abbrev b_VF_convictedBy : ByteArray := prog_1_method_34_code
theorem w_VF_convictedBy : Cond.code y_VF_convictedBy b_VF_convictedBy 5 (some .int) ∈ qa_T := qa_m2 178 (by decide +kernel) rfl
def y_ND_accusersOf : MethodName := ⟨"VotedFrames$Node", "accusersOf", "(I)I"⟩
abbrev b_ND_accusersOf : ByteArray := prog_2_method_8_code
theorem w_ND_accusersOf : Cond.code y_ND_accusersOf b_ND_accusersOf 4 (some .int) ∈ qa_T := qa_m2 183 (by decide +kernel) rfl
def y_VF_correctClocks : MethodName := ⟨"VotedFrames", "correctClocks", "()V"⟩
abbrev b_VF_correctClocks : ByteArray := prog_1_method_35_code
theorem w_VF_correctClocks : Cond.code y_VF_correctClocks b_VF_correctClocks 2 none ∈ qa_T := qa_m2 188 (by decide +kernel) rfl
def y_VF_correctionFor : MethodName := ⟨"VotedFrames", "correctionFor", "(LVotedFrames$Node;)I"⟩
abbrev b_VF_correctionFor : ByteArray := prog_1_method_36_code
theorem w_VF_correctionFor : Cond.code y_VF_correctionFor b_VF_correctionFor 5 (some .int) ∈ qa_T := qa_m2 192 (by decide +kernel) rfl
def y_ND_differenceTo : MethodName := ⟨"VotedFrames$Node", "differenceTo", "(LVotedFrames$Node;)I"⟩
abbrev b_ND_differenceTo : ByteArray := prog_2_method_7_code
theorem w_ND_differenceTo : Cond.code y_ND_differenceTo b_ND_differenceTo 2 (some .int) ∈ qa_T := qa_m2 196 (by decide +kernel) rfl
def y_ND_shows : MethodName := ⟨"VotedFrames$Node", "shows", "(I)I"⟩
abbrev b_ND_shows : ByteArray := prog_2_method_6_code
theorem w_ND_shows : Cond.code y_ND_shows b_ND_shows 2 (some .int) ∈ qa_T := qa_m2 200 (by decide +kernel) rfl
def y_VF_frame : MethodName := ⟨"VotedFrames", "frame", "()I"⟩
abbrev b_VF_frame : ByteArray := prog_1_method_10_code
theorem w_VF_frame : Cond.code y_VF_frame b_VF_frame 1 (some .int) ∈ qa_T := qa_m2 206 (by decide +kernel) rfl
def y_VF_reading : MethodName := ⟨"VotedFrames", "reading", "(I)I"⟩
abbrev b_VF_reading : ByteArray := prog_1_method_11_code
theorem w_VF_reading : Cond.code y_VF_reading b_VF_reading 2 (some .int) ∈ qa_T := qa_m2 210 (by decide +kernel) rfl
def y_VF_correction : MethodName := ⟨"VotedFrames", "correction", "(I)I"⟩
abbrev b_VF_correction : ByteArray := prog_1_method_12_code
theorem w_VF_correction : Cond.code y_VF_correction b_VF_correction 2 (some .int) ∈ qa_T := qa_m2 214 (by decide +kernel) rfl
def y_VF_input : MethodName := ⟨"VotedFrames", "input", "(II)I"⟩
abbrev b_VF_input : ByteArray := prog_1_method_13_code
theorem w_VF_input : Cond.code y_VF_input b_VF_input 3 (some .int) ∈ qa_T := qa_m2 218 (by decide +kernel) rfl
def y_VF_charge : MethodName := ⟨"VotedFrames", "charge", "(II)I"⟩
abbrev b_VF_charge : ByteArray := prog_1_method_14_code
theorem w_VF_charge : Cond.code y_VF_charge b_VF_charge 3 (some .int) ∈ qa_T := qa_m2 222 (by decide +kernel) rfl
def y_VF_word : MethodName := ⟨"VotedFrames", "word", "(II)I"⟩
abbrev b_VF_word : ByteArray := prog_1_method_15_code
theorem w_VF_word : Cond.code y_VF_word b_VF_word 3 (some .int) ∈ qa_T := qa_m2 226 (by decide +kernel) rfl
def y_VF_members : MethodName := ⟨"VotedFrames", "members", "(I)I"⟩
abbrev b_VF_members : ByteArray := prog_1_method_16_code
theorem w_VF_members : Cond.code y_VF_members b_VF_members 2 (some .int) ∈ qa_T := qa_m2 230 (by decide +kernel) rfl
def y_VF_bears : MethodName := ⟨"VotedFrames", "bears", "(I)I"⟩
abbrev b_VF_bears : ByteArray := prog_1_method_17_code
theorem w_VF_bears : Cond.code y_VF_bears b_VF_bears 2 (some .int) ∈ qa_T := qa_m2 234 (by decide +kernel) rfl
def y_VF_accused : MethodName := ⟨"VotedFrames", "accused", "(I)I"⟩
abbrev b_VF_accused : ByteArray := prog_1_method_18_code
theorem w_VF_accused : Cond.code y_VF_accused b_VF_accused 2 (some .int) ∈ qa_T := qa_m2 238 (by decide +kernel) rfl
def y_VF_spread : MethodName := ⟨"VotedFrames", "spread", "()I"⟩
abbrev b_VF_spread : ByteArray := prog_1_method_19_code
theorem w_VF_spread : Cond.code y_VF_spread b_VF_spread 5 (some .int) ∈ qa_T := qa_m3 2 (by decide +kernel) rfl
def y_VF_alike : MethodName := ⟨"VotedFrames", "alike", "()Z"⟩
abbrev b_VF_alike : ByteArray := prog_1_method_20_code
theorem w_VF_alike : Cond.code y_VF_alike b_VF_alike 3 (some .boolean) ∈ qa_T := qa_m3 6 (by decide +kernel) rfl
def y_ND_holdsTheSameAs : MethodName := ⟨"VotedFrames$Node", "holdsTheSameAs", "(LVotedFrames$Node;)Z"⟩
abbrev b_ND_holdsTheSameAs : ByteArray := prog_2_method_9_code
theorem w_ND_holdsTheSameAs : Cond.code y_ND_holdsTheSameAs b_ND_holdsTheSameAs 2 (some .boolean) ∈ qa_T := qa_m3 10 (by decide +kernel) rfl
def y_ND_sameRow : MethodName := ⟨"VotedFrames$Node", "sameRow", "([I[I)Z"⟩
abbrev b_ND_sameRow : ByteArray := prog_2_method_10_code
theorem w_ND_sameRow : Cond.code y_ND_sameRow b_ND_sameRow 3 (some .boolean) ∈ qa_T := qa_m3 13 (by decide +kernel) rfl
def y_VF_solo : MethodName := ⟨"VotedFrames", "solo", "(I)I"⟩
abbrev b_VF_solo : ByteArray := prog_1_method_21_code
theorem w_VF_solo : Cond.code y_VF_solo b_VF_solo 2 (some .int) ∈ qa_T := qa_m3 17 (by decide +kernel) rfl
def y_LW_cell : MethodName := ⟨"VotedFramesLaw", "cell", "([II)I"⟩
abbrev b_LW_cell : ByteArray := method_2_code
theorem w_LW_cell : Cond.code y_LW_cell b_LW_cell 2 (some .int) ∈ qa_T := qa_m3 20 (by decide +kernel) rfl
def y_MD_init : MethodName := ⟨"VotedFramesModel", "<init>", "(III)V"⟩
abbrev b_MD_init : ByteArray := prog_7_method_1_code
theorem w_MD_init : Cond.code y_MD_init b_MD_init 6 none ∈ qa_T := qa_m3 25 (by decide +kernel) rfl
def y_MD_clock : MethodName := ⟨"VotedFramesModel", "clock", "(III)Z"⟩
abbrev b_MD_clock : ByteArray := prog_7_method_4_code
theorem w_MD_clock : Cond.code y_MD_clock b_MD_clock 4 (some .boolean) ∈ qa_T := qa_m3 112 (by decide +kernel) rfl
def y_MD_node : MethodName := ⟨"VotedFramesModel", "node", "(I)Z"⟩
abbrev b_MD_node : ByteArray := prog_7_method_2_code
theorem w_MD_node : Cond.code y_MD_node b_MD_node 2 (some .boolean) ∈ qa_T := qa_m3 116 (by decide +kernel) rfl
def y_MD_link : MethodName := ⟨"VotedFramesModel", "link", "(IIII)Z"⟩
abbrev b_MD_link : ByteArray := prog_7_method_5_code
theorem w_MD_link : Cond.code y_MD_link b_MD_link 5 (some .boolean) ∈ qa_T := qa_m3 120 (by decide +kernel) rfl
def y_MD_sensor : MethodName := ⟨"VotedFramesModel", "sensor", "(II)Z"⟩
abbrev b_MD_sensor : ByteArray := prog_7_method_6_code
theorem w_MD_sensor : Cond.code y_MD_sensor b_MD_sensor 3 (some .boolean) ∈ qa_T := qa_m3 124 (by decide +kernel) rfl
def y_MD_fault : MethodName := ⟨"VotedFramesModel", "fault", "(III)Z"⟩
abbrev b_MD_fault : ByteArray := prog_7_method_7_code
theorem w_MD_fault : Cond.code y_MD_fault b_MD_fault 4 (some .boolean) ∈ qa_T := qa_m3 128 (by decide +kernel) rfl
def y_MD_code : MethodName := ⟨"VotedFramesModel", "code", "(III)Z"⟩
abbrev b_MD_code : ByteArray := prog_7_method_8_code
theorem w_MD_code : Cond.code y_MD_code b_MD_code 4 (some .boolean) ∈ qa_T := qa_m3 132 (by decide +kernel) rfl
def y_MD_task : MethodName := ⟨"VotedFramesModel", "task", "(I)Z"⟩
abbrev b_MD_task : ByteArray := prog_7_method_3_code
theorem w_MD_task : Cond.code y_MD_task b_MD_task 1 (some .boolean) ∈ qa_T := qa_m3 135 (by decide +kernel) rfl
def y_MD_clear : MethodName := ⟨"VotedFramesModel", "clear", "(I)I"⟩
abbrev b_MD_clear : ByteArray := prog_7_method_9_code
theorem w_MD_clear : Cond.code y_MD_clear b_MD_clear 3 (some .int) ∈ qa_T := qa_m3 139 (by decide +kernel) rfl
def y_MD_due : MethodName := ⟨"VotedFramesModel", "due", "(III)Z"⟩
abbrev b_MD_due : ByteArray := prog_7_method_10_code
theorem w_MD_due : Cond.code y_MD_due b_MD_due 4 (some .boolean) ∈ qa_T := qa_m3 143 (by decide +kernel) rfl
def y_MD_run : MethodName := ⟨"VotedFramesModel", "run", "(I)I"⟩
abbrev b_MD_run : ByteArray := prog_7_method_32_code
theorem w_MD_run : Cond.code y_MD_run b_MD_run 3 (some .int) ∈ qa_T := qa_m3 147 (by decide +kernel) rfl
def y_MD_one : MethodName := ⟨"VotedFramesModel", "one", "()V"⟩
abbrev b_MD_one : ByteArray := prog_7_method_31_code
theorem w_MD_one : Cond.code y_MD_one b_MD_one 3 none ∈ qa_T := qa_m3 151 (by decide +kernel) rfl
def y_MD_agrees : MethodName := ⟨"VotedFramesModel", "agrees", "(III)I"⟩
abbrev b_MD_agrees : ByteArray := prog_7_method_20_code
theorem w_MD_agrees : Cond.code y_MD_agrees b_MD_agrees 4 (some .int) ∈ qa_T := qa_m3 155 (by decide +kernel) rfl
def y_MD_member : MethodName := ⟨"VotedFramesModel", "member", "(II)Z"⟩
abbrev b_MD_member : ByteArray := prog_7_method_11_code
theorem w_MD_member : Cond.code y_MD_member b_MD_member 3 (some .boolean) ∈ qa_T := qa_m3 159 (by decide +kernel) rfl
def y_MD_makesOfOne : MethodName := ⟨"VotedFramesModel", "makesOfOne", "(III)I"⟩
abbrev b_MD_makesOfOne : ByteArray := prog_7_method_19_code
theorem w_MD_makesOfOne : Cond.code y_MD_makesOfOne b_MD_makesOfOne 7 (some .int) ∈ qa_T := qa_m3 163 (by decide +kernel) rfl
def y_MD_holds : MethodName := ⟨"VotedFramesModel", "holds", "(IIIII)I"⟩
abbrev b_MD_holds : ByteArray := prog_7_method_16_code
theorem w_MD_holds : Cond.code y_MD_holds b_MD_holds 8 (some .int) ∈ qa_T := qa_m3 167 (by decide +kernel) rfl
def y_MD_sent : MethodName := ⟨"VotedFramesModel", "sent", "(III)I"⟩
abbrev b_MD_sent : ByteArray := prog_7_method_15_code
theorem w_MD_sent : Cond.code y_MD_sent b_MD_sent 4 (some .int) ∈ qa_T := qa_m3 171 (by decide +kernel) rfl
def y_MD_through : MethodName := ⟨"VotedFramesModel", "through", "(II)Z"⟩
abbrev b_MD_through : ByteArray := prog_7_method_13_code
theorem w_MD_through : Cond.code y_MD_through b_MD_through 4 (some .boolean) ∈ qa_T := qa_m3 175 (by decide +kernel) rfl
def y_MD_says : MethodName := ⟨"VotedFramesModel", "says", "(III)I"⟩
abbrev b_MD_says : ByteArray := prog_7_method_14_code
theorem w_MD_says : Cond.code y_MD_says b_MD_says 5 (some .int) ∈ qa_T := qa_m3 179 (by decide +kernel) rfl
def y_MD_bears : MethodName := ⟨"VotedFramesModel", "bears", "(I)I"⟩
abbrev b_MD_bears : ByteArray := prog_7_method_40_code
theorem w_MD_bears : Cond.code y_MD_bears b_MD_bears 3 (some .int) ∈ qa_T := qa_m3 183 (by decide +kernel) rfl
def y_MD_size : MethodName := ⟨"VotedFramesModel", "size", "(I)I"⟩
abbrev b_MD_size : ByteArray := prog_7_method_12_code
theorem w_MD_size : Cond.code y_MD_size b_MD_size 4 (some .int) ∈ qa_T := qa_m3 187 (by decide +kernel) rfl
def y_MD_makesOfTwo : MethodName := ⟨"VotedFramesModel", "makesOfTwo", "(IIII)I"⟩
abbrev b_MD_makesOfTwo : ByteArray := prog_7_method_18_code
theorem w_MD_makesOfTwo : Cond.code y_MD_makesOfTwo b_MD_makesOfTwo 8 (some .int) ∈ qa_T := qa_m3 191 (by decide +kernel) rfl
def y_MD_majority : MethodName := ⟨"VotedFramesModel", "majority", "(II)I"⟩
abbrev b_MD_majority : ByteArray := prog_7_method_17_code
theorem w_MD_majority : Cond.code y_MD_majority b_MD_majority 6 (some .int) ∈ qa_T := qa_m3 195 (by decide +kernel) rfl
def y_MD_tasks : MethodName := ⟨"VotedFramesModel", "tasks", "()V"⟩
abbrev b_MD_tasks : ByteArray := prog_7_method_27_code
theorem w_MD_tasks : Cond.code y_MD_tasks b_MD_tasks 5 none ∈ qa_T := qa_m3 199 (by decide +kernel) rfl
def y_MD_isDue : MethodName := ⟨"VotedFramesModel", "isDue", "(I)Z"⟩
abbrev b_MD_isDue : ByteArray := prog_7_method_21_code
theorem w_MD_isDue : Cond.code y_MD_isDue b_MD_isDue 2 (some .boolean) ∈ qa_T := qa_m3 203 (by decide +kernel) rfl
def y_MD_play : MethodName := ⟨"VotedFramesModel", "play", "(III)I"⟩
abbrev b_MD_play : ByteArray := prog_7_method_25_code
theorem w_MD_play : Cond.code y_MD_play b_MD_play 11 (some .int) ∈ qa_T := qa_m3 207 (by decide +kernel) rfl
def y_MD_two : MethodName := ⟨"VotedFramesModel", "two", "(III)I"⟩
abbrev b_MD_two : ByteArray := prog_7_method_23_code
theorem w_MD_two : Cond.code y_MD_two b_MD_two 3 (some .int) ∈ qa_T := qa_m3 213 (by decide +kernel) rfl
def y_MD_down : MethodName := ⟨"VotedFramesModel", "down", "(II)I"⟩
abbrev b_MD_down : ByteArray := prog_7_method_22_code
theorem w_MD_down : Cond.code y_MD_down b_MD_down 3 (some .int) ∈ qa_T := qa_m3 216 (by decide +kernel) rfl
def y_MD_push : MethodName := ⟨"VotedFramesModel", "push", "(I)V"⟩
abbrev b_MD_push : ByteArray := prog_7_method_24_code
theorem w_MD_push : Cond.code y_MD_push b_MD_push 2 none ∈ qa_T := qa_m3 220 (by decide +kernel) rfl
def y_MD_vote : MethodName := ⟨"VotedFramesModel", "vote", "(II)V"⟩
abbrev b_MD_vote : ByteArray := prog_7_method_26_code
theorem w_MD_vote : Cond.code y_MD_vote b_MD_vote 10 none ∈ qa_T := qa_m3 224 (by decide +kernel) rfl
def y_MD_strike : MethodName := ⟨"VotedFramesModel", "strike", "(I)V"⟩
abbrev b_MD_strike : ByteArray := prog_7_method_28_code
theorem w_MD_strike : Cond.code y_MD_strike b_MD_strike 7 none ∈ qa_T := qa_m3 228 (by decide +kernel) rfl
def y_MD_mean : MethodName := ⟨"VotedFramesModel", "mean", "(I)I"⟩
abbrev b_MD_mean : ByteArray := prog_7_method_30_code
theorem w_MD_mean : Cond.code y_MD_mean b_MD_mean 5 (some .int) ∈ qa_T := qa_m3 232 (by decide +kernel) rfl
def y_MD_shows : MethodName := ⟨"VotedFramesModel", "shows", "(II)I"⟩
abbrev b_MD_shows : ByteArray := prog_7_method_29_code
theorem w_MD_shows : Cond.code y_MD_shows b_MD_shows 5 (some .int) ∈ qa_T := qa_m3 236 (by decide +kernel) rfl
def y_MD_frame : MethodName := ⟨"VotedFramesModel", "frame", "()I"⟩
abbrev b_MD_frame : ByteArray := prog_7_method_33_code
theorem w_MD_frame : Cond.code y_MD_frame b_MD_frame 1 (some .int) ∈ qa_T := qa_m4 0 (by decide +kernel) rfl
def y_MD_reading : MethodName := ⟨"VotedFramesModel", "reading", "(I)I"⟩
abbrev b_MD_reading : ByteArray := prog_7_method_34_code
theorem w_MD_reading : Cond.code y_MD_reading b_MD_reading 2 (some .int) ∈ qa_T := qa_m4 4 (by decide +kernel) rfl
def y_MD_correction : MethodName := ⟨"VotedFramesModel", "correction", "(I)I"⟩
abbrev b_MD_correction : ByteArray := prog_7_method_35_code
theorem w_MD_correction : Cond.code y_MD_correction b_MD_correction 2 (some .int) ∈ qa_T := qa_m4 8 (by decide +kernel) rfl
def y_MD_input : MethodName := ⟨"VotedFramesModel", "input", "(II)I"⟩
abbrev b_MD_input : ByteArray := prog_7_method_36_code
theorem w_MD_input : Cond.code y_MD_input b_MD_input 3 (some .int) ∈ qa_T := qa_m4 12 (by decide +kernel) rfl
def y_MD_charge : MethodName := ⟨"VotedFramesModel", "charge", "(II)I"⟩
abbrev b_MD_charge : ByteArray := prog_7_method_37_code
theorem w_MD_charge : Cond.code y_MD_charge b_MD_charge 3 (some .int) ∈ qa_T := qa_m4 16 (by decide +kernel) rfl
def y_MD_word : MethodName := ⟨"VotedFramesModel", "word", "(II)I"⟩
abbrev b_MD_word : ByteArray := prog_7_method_38_code
theorem w_MD_word : Cond.code y_MD_word b_MD_word 3 (some .int) ∈ qa_T := qa_m4 20 (by decide +kernel) rfl
def y_MD_members : MethodName := ⟨"VotedFramesModel", "members", "(I)I"⟩
abbrev b_MD_members : ByteArray := prog_7_method_39_code
theorem w_MD_members : Cond.code y_MD_members b_MD_members 2 (some .int) ∈ qa_T := qa_m4 24 (by decide +kernel) rfl
def y_MD_accused : MethodName := ⟨"VotedFramesModel", "accused", "(I)I"⟩
abbrev b_MD_accused : ByteArray := prog_7_method_41_code
theorem w_MD_accused : Cond.code y_MD_accused b_MD_accused 2 (some .int) ∈ qa_T := qa_m4 29 (by decide +kernel) rfl
def y_MD_spread : MethodName := ⟨"VotedFramesModel", "spread", "()I"⟩
abbrev b_MD_spread : ByteArray := prog_7_method_42_code
theorem w_MD_spread : Cond.code y_MD_spread b_MD_spread 5 (some .int) ∈ qa_T := qa_m4 33 (by decide +kernel) rfl
def y_MD_alike : MethodName := ⟨"VotedFramesModel", "alike", "()Z"⟩
abbrev b_MD_alike : ByteArray := prog_7_method_44_code
theorem w_MD_alike : Cond.code y_MD_alike b_MD_alike 4 (some .boolean) ∈ qa_T := qa_m4 37 (by decide +kernel) rfl
def y_MD_twins : MethodName := ⟨"VotedFramesModel", "twins", "(II)Z"⟩
abbrev b_MD_twins : ByteArray := prog_7_method_43_code
theorem w_MD_twins : Cond.code y_MD_twins b_MD_twins 5 (some .boolean) ∈ qa_T := qa_m4 41 (by decide +kernel) rfl
def y_MD_solo : MethodName := ⟨"VotedFramesModel", "solo", "(I)I"⟩
abbrev b_MD_solo : ByteArray := prog_7_method_45_code
theorem w_MD_solo : Cond.code y_MD_solo b_MD_solo 2 (some .int) ∈ qa_T := qa_m4 45 (by decide +kernel) rfl
theorem f_ND_19 : Cond.fieldLink "VotedFrames$Node" 19 "VotedFrames$Node" "number" "I" ∈ qa_T := qa_m1 39 (by decide +kernel) rfl
theorem f_RL_83 : Cond.fieldLink "VotedFrames$Relay" 83 "VotedFrames$Node" "number" "I" ∈ qa_T := qa_m1 40 (by decide +kernel) rfl
theorem f_VF_236 : Cond.fieldLink "VotedFrames" 236 "VotedFrames$Node" "number" "I" ∈ qa_T := qa_m1 41 (by decide +kernel) rfl
theorem f_ND_22 : Cond.fieldLink "VotedFrames$Node" 22 "VotedFrames$Node" "delayFrom" "[I" ∈ qa_T := qa_m1 42 (by decide +kernel) rfl
theorem f_VF_88 : Cond.fieldLink "VotedFrames" 88 "VotedFrames$Node" "delayFrom" "[I" ∈ qa_T := qa_m1 43 (by decide +kernel) rfl
theorem f_ND_25 : Cond.fieldLink "VotedFrames$Node" 25 "VotedFrames$Node" "errorFrom" "[I" ∈ qa_T := qa_m1 44 (by decide +kernel) rfl
theorem f_VF_91 : Cond.fieldLink "VotedFrames" 91 "VotedFrames$Node" "errorFrom" "[I" ∈ qa_T := qa_m1 45 (by decide +kernel) rfl
theorem f_ND_28 : Cond.fieldLink "VotedFrames$Node" 28 "VotedFrames$Node" "inputs" "[I" ∈ qa_T := qa_m1 46 (by decide +kernel) rfl
theorem f_VF_133 : Cond.fieldLink "VotedFrames" 133 "VotedFrames$Node" "inputs" "[I" ∈ qa_T := qa_m1 47 (by decide +kernel) rfl
theorem f_ND_31 : Cond.fieldLink "VotedFrames$Node" 31 "VotedFrames$Node" "charges" "[I" ∈ qa_T := qa_m1 48 (by decide +kernel) rfl
theorem f_VF_136 : Cond.fieldLink "VotedFrames" 136 "VotedFrames$Node" "charges" "[I" ∈ qa_T := qa_m1 49 (by decide +kernel) rfl
theorem f_ND_9 : Cond.fieldLink "VotedFrames$Node" 9 "VotedFrames$Node" "words" "[I" ∈ qa_T := qa_m1 50 (by decide +kernel) rfl
theorem f_VF_139 : Cond.fieldLink "VotedFrames" 139 "VotedFrames$Node" "words" "[I" ∈ qa_T := qa_m1 51 (by decide +kernel) rfl
theorem f_VF_80 : Cond.fieldLink "VotedFrames" 80 "VotedFrames$Node" "time" "I" ∈ qa_T := qa_m1 52 (by decide +kernel) rfl
theorem f_ND_57 : Cond.fieldLink "VotedFrames$Node" 57 "VotedFrames$Node" "time" "I" ∈ qa_T := qa_m1 53 (by decide +kernel) rfl
theorem f_VF_85 : Cond.fieldLink "VotedFrames" 85 "VotedFrames$Node" "drift" "I" ∈ qa_T := qa_m1 54 (by decide +kernel) rfl
theorem f_VF_94 : Cond.fieldLink "VotedFrames" 94 "VotedFrames$Node" "sensed" "I" ∈ qa_T := qa_m1 55 (by decide +kernel) rfl
theorem f_ND_15 : Cond.fieldLink "VotedFrames$Node" 15 "VotedFrames$Node" "kind" "I" ∈ qa_T := qa_m1 56 (by decide +kernel) rfl
theorem f_VF_97 : Cond.fieldLink "VotedFrames" 97 "VotedFrames$Node" "kind" "I" ∈ qa_T := qa_m1 57 (by decide +kernel) rfl
theorem f_ND_63 : Cond.fieldLink "VotedFrames$Node" 63 "VotedFrames$Node" "x" "I" ∈ qa_T := qa_m1 58 (by decide +kernel) rfl
theorem f_VF_100 : Cond.fieldLink "VotedFrames" 100 "VotedFrames$Node" "x" "I" ∈ qa_T := qa_m1 59 (by decide +kernel) rfl
theorem f_ND_34 : Cond.fieldLink "VotedFrames$Node" 34 "VotedFrames$Node" "memberSet" "I" ∈ qa_T := qa_m1 60 (by decide +kernel) rfl
theorem f_RL_54 : Cond.fieldLink "VotedFrames$Relay" 54 "VotedFrames$Node" "memberSet" "I" ∈ qa_T := qa_m1 61 (by decide +kernel) rfl
theorem f_VF_142 : Cond.fieldLink "VotedFrames" 142 "VotedFrames$Node" "memberSet" "I" ∈ qa_T := qa_m1 62 (by decide +kernel) rfl
theorem f_RL_67 : Cond.fieldLink "VotedFrames$Relay" 67 "VotedFrames$Node" "heardSet" "I" ∈ qa_T := qa_m1 63 (by decide +kernel) rfl
theorem f_VF_198 : Cond.fieldLink "VotedFrames" 198 "VotedFrames$Node" "heardSet" "I" ∈ qa_T := qa_m1 64 (by decide +kernel) rfl
theorem f_VF_149 : Cond.fieldLink "VotedFrames" 149 "VotedFrames$Node" "accusedSet" "I" ∈ qa_T := qa_m1 65 (by decide +kernel) rfl
theorem f_VF_130 : Cond.fieldLink "VotedFrames" 130 "VotedFrames$Node" "latestCorrection" "I" ∈ qa_T := qa_m1 66 (by decide +kernel) rfl
theorem f_RL_7 : Cond.fieldLink "VotedFrames$Relay" 7 "VotedFrames$Relay" "nodes" "[LVotedFrames$Node;" ∈ qa_T := qa_m1 107 (by decide +kernel) rfl
theorem f_RL_13 : Cond.fieldLink "VotedFrames$Relay" 13 "VotedFrames$Relay" "faults" "I" ∈ qa_T := qa_m1 108 (by decide +kernel) rfl
theorem f_RL_17 : Cond.fieldLink "VotedFrames$Relay" 17 "VotedFrames$Relay" "held" "[I" ∈ qa_T := qa_m1 109 (by decide +kernel) rfl
theorem f_RL_23 : Cond.fieldLink "VotedFrames$Relay" 23 "VotedFrames$Relay" "lists" "[[I" ∈ qa_T := qa_m1 110 (by decide +kernel) rfl
theorem f_RL_44 : Cond.fieldLink "VotedFrames$Relay" 44 "VotedFrames$Relay" "source" "I" ∈ qa_T := qa_m1 111 (by decide +kernel) rfl
theorem f_RL_47 : Cond.fieldLink "VotedFrames$Relay" 47 "VotedFrames$Relay" "value" "I" ∈ qa_T := qa_m1 112 (by decide +kernel) rfl
theorem f_RL_26 : Cond.fieldLink "VotedFrames$Relay" 26 "VotedFrames$Relay" "frameNumber" "I" ∈ qa_T := qa_m1 113 (by decide +kernel) rfl
theorem f_RL_29 : Cond.fieldLink "VotedFrames$Relay" 29 "VotedFrames$Relay" "rounds" "I" ∈ qa_T := qa_m1 114 (by decide +kernel) rfl
theorem f_TK_9 : Cond.fieldLink "VotedFrames$Task" 9 "VotedFrames$Task" "ops" "[I" ∈ qa_T := qa_m1 142 (by decide +kernel) rfl
theorem f_SM_24 : Cond.fieldLink "VotedFrames$StackMachine" 24 "VotedFrames$Task" "ops" "[I" ∈ qa_T := qa_m1 143 (by decide +kernel) rfl
theorem f_TK_13 : Cond.fieldLink "VotedFrames$Task" 13 "VotedFrames$Task" "numbers" "[I" ∈ qa_T := qa_m1 144 (by decide +kernel) rfl
theorem f_SM_27 : Cond.fieldLink "VotedFrames$StackMachine" 27 "VotedFrames$Task" "numbers" "[I" ∈ qa_T := qa_m1 145 (by decide +kernel) rfl
theorem f_TK_16 : Cond.fieldLink "VotedFrames$Task" 16 "VotedFrames$Task" "length" "I" ∈ qa_T := qa_m1 146 (by decide +kernel) rfl
theorem f_SM_19 : Cond.fieldLink "VotedFrames$StackMachine" 19 "VotedFrames$Task" "length" "I" ∈ qa_T := qa_m1 147 (by decide +kernel) rfl
theorem f_TK_20 : Cond.fieldLink "VotedFrames$Task" 20 "VotedFrames$Task" "period" "I" ∈ qa_T := qa_m1 148 (by decide +kernel) rfl
theorem f_VF_118 : Cond.fieldLink "VotedFrames" 118 "VotedFrames$Task" "period" "I" ∈ qa_T := qa_m1 149 (by decide +kernel) rfl
theorem f_TK_23 : Cond.fieldLink "VotedFrames$Task" 23 "VotedFrames$Task" "phase" "I" ∈ qa_T := qa_m1 150 (by decide +kernel) rfl
theorem f_VF_121 : Cond.fieldLink "VotedFrames" 121 "VotedFrames$Task" "phase" "I" ∈ qa_T := qa_m1 151 (by decide +kernel) rfl
theorem f_SM_11 : Cond.fieldLink "VotedFrames$StackMachine" 11 "VotedFrames$StackMachine" "stack" "[I" ∈ qa_T := qa_m1 169 (by decide +kernel) rfl
theorem f_SM_15 : Cond.fieldLink "VotedFrames$StackMachine" 15 "VotedFrames$StackMachine" "depth" "I" ∈ qa_T := qa_m1 170 (by decide +kernel) rfl
theorem f_VF_13 : Cond.fieldLink "VotedFrames" 13 "VotedFrames" "nodeCount" "I" ∈ qa_T := qa_m1 176 (by decide +kernel) rfl
theorem f_VF_21 : Cond.fieldLink "VotedFrames" 21 "VotedFrames" "faultsBorne" "I" ∈ qa_T := qa_m1 177 (by decide +kernel) rfl
theorem f_VF_24 : Cond.fieldLink "VotedFrames" 24 "VotedFrames" "delta" "I" ∈ qa_T := qa_m1 178 (by decide +kernel) rfl
theorem f_VF_31 : Cond.fieldLink "VotedFrames" 31 "VotedFrames" "nodes" "[LVotedFrames$Node;" ∈ qa_T := qa_m1 179 (by decide +kernel) rfl
theorem f_VF_40 : Cond.fieldLink "VotedFrames" 40 "VotedFrames" "relay" "LVotedFrames$Relay;" ∈ qa_T := qa_m1 180 (by decide +kernel) rfl
theorem f_VF_48 : Cond.fieldLink "VotedFrames" 48 "VotedFrames" "tasks" "[LVotedFrames$Task;" ∈ qa_T := qa_m1 181 (by decide +kernel) rfl
theorem f_VF_55 : Cond.fieldLink "VotedFrames" 55 "VotedFrames" "stackMachine" "LVotedFrames$StackMachine;" ∈ qa_T := qa_m1 182 (by decide +kernel) rfl
theorem f_VF_59 : Cond.fieldLink "VotedFrames" 59 "VotedFrames" "singleWords" "[I" ∈ qa_T := qa_m1 183 (by decide +kernel) rfl
theorem f_VF_63 : Cond.fieldLink "VotedFrames" 63 "VotedFrames" "noInputs" "[I" ∈ qa_T := qa_m1 184 (by decide +kernel) rfl
theorem f_VF_66 : Cond.fieldLink "VotedFrames" 66 "VotedFrames" "results" "[I" ∈ qa_T := qa_m1 185 (by decide +kernel) rfl
theorem f_VF_69 : Cond.fieldLink "VotedFrames" 69 "VotedFrames" "ballot" "[I" ∈ qa_T := qa_m1 186 (by decide +kernel) rfl
theorem f_VF_127 : Cond.fieldLink "VotedFrames" 127 "VotedFrames" "framesRun" "I" ∈ qa_T := qa_m1 187 (by decide +kernel) rfl
theorem f_MD_73 : Cond.fieldLink "VotedFramesModel" 73 "VotedFramesModel" "n" "I" ∈ qa_T := qa_m3 27 (by decide +kernel) rfl
theorem f_MD_77 : Cond.fieldLink "VotedFramesModel" 77 "VotedFramesModel" "m" "I" ∈ qa_T := qa_m3 28 (by decide +kernel) rfl
theorem f_MD_80 : Cond.fieldLink "VotedFramesModel" 80 "VotedFramesModel" "delta" "I" ∈ qa_T := qa_m3 29 (by decide +kernel) rfl
theorem f_MD_94 : Cond.fieldLink "VotedFramesModel" 94 "VotedFramesModel" "frames" "I" ∈ qa_T := qa_m3 30 (by decide +kernel) rfl
theorem f_MD_155 : Cond.fieldLink "VotedFramesModel" 155 "VotedFramesModel" "strikes" "I" ∈ qa_T := qa_m3 31 (by decide +kernel) rfl
theorem f_MD_7 : Cond.fieldLink "VotedFramesModel" 7 "VotedFramesModel" "clock" "[I" ∈ qa_T := qa_m3 32 (by decide +kernel) rfl
theorem f_MD_13 : Cond.fieldLink "VotedFramesModel" 13 "VotedFramesModel" "drift" "[I" ∈ qa_T := qa_m3 33 (by decide +kernel) rfl
theorem f_MD_16 : Cond.fieldLink "VotedFramesModel" 16 "VotedFramesModel" "sensor" "[I" ∈ qa_T := qa_m3 34 (by decide +kernel) rfl
theorem f_MD_19 : Cond.fieldLink "VotedFramesModel" 19 "VotedFramesModel" "kind" "[I" ∈ qa_T := qa_m3 35 (by decide +kernel) rfl
theorem f_MD_22 : Cond.fieldLink "VotedFramesModel" 22 "VotedFramesModel" "extra" "[I" ∈ qa_T := qa_m3 36 (by decide +kernel) rfl
theorem f_MD_25 : Cond.fieldLink "VotedFramesModel" 25 "VotedFramesModel" "mask" "[I" ∈ qa_T := qa_m3 37 (by decide +kernel) rfl
theorem f_MD_28 : Cond.fieldLink "VotedFramesModel" 28 "VotedFramesModel" "blamed" "[I" ∈ qa_T := qa_m3 38 (by decide +kernel) rfl
theorem f_MD_31 : Cond.fieldLink "VotedFramesModel" 31 "VotedFramesModel" "shift" "[I" ∈ qa_T := qa_m3 39 (by decide +kernel) rfl
theorem f_MD_34 : Cond.fieldLink "VotedFramesModel" 34 "VotedFramesModel" "result" "[I" ∈ qa_T := qa_m3 40 (by decide +kernel) rfl
theorem f_MD_37 : Cond.fieldLink "VotedFramesModel" 37 "VotedFramesModel" "words" "[I" ∈ qa_T := qa_m3 41 (by decide +kernel) rfl
theorem f_MD_40 : Cond.fieldLink "VotedFramesModel" 40 "VotedFramesModel" "inputs" "[I" ∈ qa_T := qa_m3 42 (by decide +kernel) rfl
theorem f_MD_43 : Cond.fieldLink "VotedFramesModel" 43 "VotedFramesModel" "charges" "[I" ∈ qa_T := qa_m3 43 (by decide +kernel) rfl
theorem f_MD_46 : Cond.fieldLink "VotedFramesModel" 46 "VotedFramesModel" "delays" "[I" ∈ qa_T := qa_m3 44 (by decide +kernel) rfl
theorem f_MD_49 : Cond.fieldLink "VotedFramesModel" 49 "VotedFramesModel" "errors" "[I" ∈ qa_T := qa_m3 45 (by decide +kernel) rfl
theorem f_MD_52 : Cond.fieldLink "VotedFramesModel" 52 "VotedFramesModel" "ops" "[I" ∈ qa_T := qa_m3 46 (by decide +kernel) rfl
theorem f_MD_55 : Cond.fieldLink "VotedFramesModel" 55 "VotedFramesModel" "args" "[I" ∈ qa_T := qa_m3 47 (by decide +kernel) rfl
theorem f_MD_58 : Cond.fieldLink "VotedFramesModel" 58 "VotedFramesModel" "sizes" "[I" ∈ qa_T := qa_m3 48 (by decide +kernel) rfl
theorem f_MD_61 : Cond.fieldLink "VotedFramesModel" 61 "VotedFramesModel" "periods" "[I" ∈ qa_T := qa_m3 49 (by decide +kernel) rfl
theorem f_MD_64 : Cond.fieldLink "VotedFramesModel" 64 "VotedFramesModel" "phases" "[I" ∈ qa_T := qa_m3 50 (by decide +kernel) rfl
theorem f_MD_67 : Cond.fieldLink "VotedFramesModel" 67 "VotedFramesModel" "stack" "[I" ∈ qa_T := qa_m3 51 (by decide +kernel) rfl
theorem f_MD_129 : Cond.fieldLink "VotedFramesModel" 129 "VotedFramesModel" "depth" "I" ∈ qa_T := qa_m3 52 (by decide +kernel) rfl
theorem f_MD_70 : Cond.fieldLink "VotedFramesModel" 70 "VotedFramesModel" "list" "[I" ∈ qa_T := qa_m3 53 (by decide +kernel) rfl
theorem k_JI_265 : Cond.constant "java/lang/Integer" 265 (1431655765) ∈ qa_T := qa_m2 58 (by decide +kernel) rfl
theorem k_JI_266 : Cond.constant "java/lang/Integer" 266 (858993459) ∈ qa_T := qa_m2 59 (by decide +kernel) rfl
theorem k_JI_267 : Cond.constant "java/lang/Integer" 267 (252645135) ∈ qa_T := qa_m2 60 (by decide +kernel) rfl
theorem k_SM_50 : Cond.constant "VotedFrames$StackMachine" 50 (-1000000001) ∈ qa_T := qa_m2 130 (by decide +kernel) rfl
theorem k_SM_54 : Cond.constant "VotedFrames$StackMachine" 54 (-1000000003) ∈ qa_T := qa_m2 131 (by decide +kernel) rfl
theorem k_SM_55 : Cond.constant "VotedFrames$StackMachine" 55 (-1000000002) ∈ qa_T := qa_m2 132 (by decide +kernel) rfl
theorem k_MD_132 : Cond.constant "VotedFramesModel" 132 (-1000000001) ∈ qa_T := qa_m3 208 (by decide +kernel) rfl
theorem k_MD_133 : Cond.constant "VotedFramesModel" 133 (-1000000003) ∈ qa_T := qa_m3 209 (by decide +kernel) rfl
theorem k_MD_134 : Cond.constant "VotedFramesModel" 134 (-1000000002) ∈ qa_T := qa_m3 210 (by decide +kernel) rfl
theorem k_VF_9 : qa_LS "VotedFrames" 9 y_VF_clamp b_VF_clamp 3 (some .int) 3 := ⟨qa_m1 17 (by decide +kernel) rfl, qa_m1 18 (by decide +kernel) rfl, qa_m1 1 (by decide +kernel) rfl, w_VF_clamp, ⟨by decide, by decide, by decide +kernel⟩⟩
theorem k_VF_155 : qa_LS "VotedFrames" 155 y_JM_min b_JM_min 2 (some .int) 2 := ⟨qa_m1 20 (by decide +kernel) rfl, qa_m1 21 (by decide +kernel) rfl, qa_m1 2 (by decide +kernel) rfl, w_JM_min, ⟨by decide, by decide, by decide +kernel⟩⟩
theorem k_VF_161 : qa_LS "VotedFrames" 161 y_JM_max b_JM_max 2 (some .int) 2 := ⟨qa_m1 23 (by decide +kernel) rfl, qa_m1 24 (by decide +kernel) rfl, qa_m1 2 (by decide +kernel) rfl, w_JM_max, ⟨by decide, by decide, by decide +kernel⟩⟩
theorem k_VF_17 : qa_LS "VotedFrames" 17 y_VF_within b_VF_within 3 (some .boolean) 3 := ⟨qa_m1 26 (by decide +kernel) rfl, qa_m1 27 (by decide +kernel) rfl, qa_m1 1 (by decide +kernel) rfl, w_VF_within, ⟨by decide, by decide, by decide +kernel⟩⟩
theorem k_VF_27 : qa_LS "VotedFrames" 27 y_VF_madeNodes b_VF_madeNodes 3 (some (.array (.object "VotedFrames$Node"))) 1 := ⟨qa_m1 29 (by decide +kernel) rfl, qa_m1 30 (by decide +kernel) rfl, qa_m1 1 (by decide +kernel) rfl, w_VF_madeNodes, ⟨by decide, by decide, by decide +kernel⟩⟩
theorem k_VF_44 : qa_LS "VotedFrames" 44 y_VF_madeTasks b_VF_madeTasks 2 (some (.array (.object "VotedFrames$Task"))) 0 := ⟨qa_m1 132 (by decide +kernel) rfl, qa_m1 133 (by decide +kernel) rfl, qa_m1 1 (by decide +kernel) rfl, w_VF_madeTasks, ⟨by decide, by decide, by decide +kernel⟩⟩
theorem k_LW_21 : qa_LV "VotedFramesLaw" "VotedFrames" 21 y_VF_clock b_VF_clock 4 (some .boolean) 3 := ⟨qa_m1 213 (by decide +kernel) rfl, qa_m1 214 (by decide +kernel) rfl, qa_m1 215 (by decide +kernel) rfl, qa_m1 1 (by decide +kernel) rfl, w_VF_clock, ⟨rfl, by decide, by decide, by decide +kernel⟩⟩
theorem k_VF_72 : qa_LV "VotedFrames" "VotedFrames" 72 y_VF_isNode b_VF_isNode 2 (some .boolean) 1 := ⟨qa_m1 217 (by decide +kernel) rfl, qa_m1 219 (by decide +kernel) rfl, qa_m0 0 (by decide +kernel) rfl, qa_m1 1 (by decide +kernel) rfl, w_VF_isNode, ⟨rfl, by decide, by decide, by decide +kernel⟩⟩
theorem k_VF_76 : qa_LS "VotedFrames" 76 y_VF_isAtMost b_VF_isAtMost 2 (some .boolean) 2 := ⟨qa_m1 221 (by decide +kernel) rfl, qa_m1 222 (by decide +kernel) rfl, qa_m1 1 (by decide +kernel) rfl, w_VF_isAtMost, ⟨by decide, by decide, by decide +kernel⟩⟩
theorem k_LW_26 : qa_LV "VotedFramesLaw" "VotedFrames" 26 y_VF_link b_VF_link 5 (some .boolean) 4 := ⟨qa_m1 224 (by decide +kernel) rfl, qa_m1 225 (by decide +kernel) rfl, qa_m1 226 (by decide +kernel) rfl, qa_m1 1 (by decide +kernel) rfl, w_VF_link, ⟨rfl, by decide, by decide, by decide +kernel⟩⟩
theorem k_LW_31 : qa_LV "VotedFramesLaw" "VotedFrames" 31 y_VF_sensor b_VF_sensor 3 (some .boolean) 2 := ⟨qa_m1 228 (by decide +kernel) rfl, qa_m1 229 (by decide +kernel) rfl, qa_m1 230 (by decide +kernel) rfl, qa_m1 1 (by decide +kernel) rfl, w_VF_sensor, ⟨rfl, by decide, by decide, by decide +kernel⟩⟩
theorem k_LW_36 : qa_LV "VotedFramesLaw" "VotedFrames" 36 y_VF_fault b_VF_fault 4 (some .boolean) 3 := ⟨qa_m1 232 (by decide +kernel) rfl, qa_m1 233 (by decide +kernel) rfl, qa_m1 234 (by decide +kernel) rfl, qa_m1 1 (by decide +kernel) rfl, w_VF_fault, ⟨rfl, by decide, by decide, by decide +kernel⟩⟩
theorem k_LW_40 : qa_LV "VotedFramesLaw" "VotedFrames" 40 y_VF_code b_VF_code 4 (some .boolean) 3 := ⟨qa_m1 236 (by decide +kernel) rfl, qa_m1 237 (by decide +kernel) rfl, qa_m1 238 (by decide +kernel) rfl, qa_m1 1 (by decide +kernel) rfl, w_VF_code, ⟨rfl, by decide, by decide, by decide +kernel⟩⟩
theorem k_VF_103 : qa_LS "VotedFrames" 103 y_VF_isTask b_VF_isTask 1 (some .boolean) 1 := ⟨qa_m2 0 (by decide +kernel) rfl, qa_m2 1 (by decide +kernel) rfl, qa_m1 1 (by decide +kernel) rfl, w_VF_isTask, ⟨by decide, by decide, by decide +kernel⟩⟩
theorem k_VF_106 : qa_LV "VotedFrames" "VotedFrames" 106 y_VF_fitsInstruction b_VF_fitsInstruction 3 (some .boolean) 2 := ⟨qa_m2 3 (by decide +kernel) rfl, qa_m2 5 (by decide +kernel) rfl, qa_m0 1 (by decide +kernel) rfl, qa_m1 1 (by decide +kernel) rfl, w_VF_fitsInstruction, ⟨rfl, by decide, by decide, by decide +kernel⟩⟩
theorem k_VF_109 : qa_LV "VotedFrames" "VotedFrames$Task" 109 y_TK_append b_TK_append 3 (some .boolean) 2 := ⟨qa_m2 7 (by decide +kernel) rfl, qa_m2 8 (by decide +kernel) rfl, qa_m2 9 (by decide +kernel) rfl, qa_m1 5 (by decide +kernel) rfl, w_TK_append, ⟨rfl, by decide, by decide, by decide +kernel⟩⟩
theorem k_LW_44 : qa_LV "VotedFramesLaw" "VotedFrames" 44 y_VF_clear b_VF_clear 2 (some .int) 1 := ⟨qa_m2 11 (by decide +kernel) rfl, qa_m2 12 (by decide +kernel) rfl, qa_m2 13 (by decide +kernel) rfl, qa_m1 1 (by decide +kernel) rfl, w_VF_clear, ⟨rfl, by decide, by decide, by decide +kernel⟩⟩
theorem k_VF_114 : qa_LV "VotedFrames" "VotedFrames$Task" 114 y_TK_empty b_TK_empty 2 (some .int) 0 := ⟨qa_m2 15 (by decide +kernel) rfl, qa_m2 16 (by decide +kernel) rfl, qa_m2 17 (by decide +kernel) rfl, qa_m1 5 (by decide +kernel) rfl, w_TK_empty, ⟨rfl, by decide, by decide, by decide +kernel⟩⟩
theorem k_LW_49 : qa_LV "VotedFramesLaw" "VotedFrames" 49 y_VF_due b_VF_due 4 (some .boolean) 3 := ⟨qa_m2 19 (by decide +kernel) rfl, qa_m2 20 (by decide +kernel) rfl, qa_m2 21 (by decide +kernel) rfl, qa_m1 1 (by decide +kernel) rfl, w_VF_due, ⟨rfl, by decide, by decide, by decide +kernel⟩⟩
theorem k_LW_53 : qa_LV "VotedFramesLaw" "VotedFrames" 53 y_VF_run b_VF_run 4 (some .int) 1 := ⟨qa_m2 23 (by decide +kernel) rfl, qa_m2 24 (by decide +kernel) rfl, qa_m2 25 (by decide +kernel) rfl, qa_m1 1 (by decide +kernel) rfl, w_VF_run, ⟨rfl, by decide, by decide, by decide +kernel⟩⟩
theorem k_VF_124 : qa_LV "VotedFrames" "VotedFrames" 124 y_VF_runFrame b_VF_runFrame 2 (some .int) 0 := ⟨qa_m2 27 (by decide +kernel) rfl, qa_m2 29 (by decide +kernel) rfl, qa_m0 2 (by decide +kernel) rfl, qa_m1 1 (by decide +kernel) rfl, w_VF_runFrame, ⟨rfl, by decide, by decide, by decide +kernel⟩⟩
theorem k_VF_172 : qa_LV "VotedFrames" "VotedFrames" 172 y_VF_openLines b_VF_openLines 4 none 0 := ⟨qa_m2 31 (by decide +kernel) rfl, qa_m2 33 (by decide +kernel) rfl, qa_m0 3 (by decide +kernel) rfl, qa_m1 1 (by decide +kernel) rfl, w_VF_openLines, ⟨rfl, by decide, by decide, by decide +kernel⟩⟩
theorem k_VF_194 : qa_LV "VotedFrames" "VotedFrames$Node" 194 y_ND_canHear b_ND_canHear 3 (some .boolean) 2 := ⟨qa_m2 35 (by decide +kernel) rfl, qa_m2 36 (by decide +kernel) rfl, qa_m2 37 (by decide +kernel) rfl, qa_m1 3 (by decide +kernel) rfl, w_ND_canHear, ⟨rfl, by decide, by decide, by decide +kernel⟩⟩
theorem k_VF_175 : qa_LV "VotedFrames" "VotedFrames$Relay" 175 y_RL_beginFrame b_RL_beginFrame 3 none 1 := ⟨qa_m2 43 (by decide +kernel) rfl, qa_m2 44 (by decide +kernel) rfl, qa_m2 45 (by decide +kernel) rfl, qa_m1 4 (by decide +kernel) rfl, w_RL_beginFrame, ⟨rfl, by decide, by decide, by decide +kernel⟩⟩
theorem k_RL_32 : qa_LV "VotedFrames$Relay" "VotedFrames$Node" 32 y_ND_bearable b_ND_bearable 2 (some .int) 1 := ⟨qa_m2 47 (by decide +kernel) rfl, qa_m2 48 (by decide +kernel) rfl, qa_m2 49 (by decide +kernel) rfl, qa_m1 3 (by decide +kernel) rfl, w_ND_bearable, ⟨rfl, by decide, by decide, by decide +kernel⟩⟩
theorem k_ND_43 : qa_LV "VotedFrames$Node" "VotedFrames$Node" 43 y_ND_memberCount b_ND_memberCount 1 (some .int) 0 := ⟨qa_m2 51 (by decide +kernel) rfl, qa_m2 52 (by decide +kernel) rfl, qa_m2 53 (by decide +kernel) rfl, qa_m1 3 (by decide +kernel) rfl, w_ND_memberCount, ⟨rfl, by decide, by decide, by decide +kernel⟩⟩
theorem k_ND_37 : qa_LS "VotedFrames$Node" 37 y_JI_bitCount b_JI_bitCount 1 (some .int) 1 := ⟨qa_m2 55 (by decide +kernel) rfl, qa_m2 56 (by decide +kernel) rfl, qa_m1 8 (by decide +kernel) rfl, w_JI_bitCount, ⟨by decide, by decide, by decide +kernel⟩⟩
theorem k_ND_47 : qa_LS "VotedFrames$Node" 47 y_JM_min b_JM_min 2 (some .int) 2 := ⟨qa_m2 61 (by decide +kernel) rfl, qa_m1 21 (by decide +kernel) rfl, qa_m1 2 (by decide +kernel) rfl, w_JM_min, ⟨by decide, by decide, by decide +kernel⟩⟩
theorem k_RL_38 : qa_LS "VotedFrames$Relay" 38 y_JM_max b_JM_max 2 (some .int) 2 := ⟨qa_m2 62 (by decide +kernel) rfl, qa_m1 24 (by decide +kernel) rfl, qa_m1 2 (by decide +kernel) rfl, w_JM_max, ⟨by decide, by decide, by decide +kernel⟩⟩
theorem k_VF_179 : qa_LV "VotedFrames" "VotedFrames" 179 y_VF_agreeOnSensors b_VF_agreeOnSensors 3 none 0 := ⟨qa_m2 63 (by decide +kernel) rfl, qa_m2 65 (by decide +kernel) rfl, qa_m0 4 (by decide +kernel) rfl, qa_m1 1 (by decide +kernel) rfl, w_VF_agreeOnSensors, ⟨rfl, by decide, by decide, by decide +kernel⟩⟩
theorem k_VF_201 : qa_LV "VotedFrames" "VotedFrames$Relay" 201 y_RL_spreadOut b_RL_spreadOut 3 none 2 := ⟨qa_m2 67 (by decide +kernel) rfl, qa_m2 68 (by decide +kernel) rfl, qa_m2 69 (by decide +kernel) rfl, qa_m1 4 (by decide +kernel) rfl, w_RL_spreadOut, ⟨rfl, by decide, by decide, by decide +kernel⟩⟩
theorem k_RL_50 : qa_LV "VotedFrames$Relay" "VotedFrames$Relay" 50 y_RL_send b_RL_send 7 none 5 := ⟨qa_m2 71 (by decide +kernel) rfl, qa_m2 73 (by decide +kernel) rfl, qa_m0 5 (by decide +kernel) rfl, qa_m1 4 (by decide +kernel) rfl, w_RL_send, ⟨rfl, by decide, by decide, by decide +kernel⟩⟩
theorem k_RL_74 : qa_LV "VotedFrames$Relay" "VotedFrames$Relay" 74 y_RL_placeOf b_RL_placeOf 3 (some .int) 2 := ⟨qa_m2 76 (by decide +kernel) rfl, qa_m2 78 (by decide +kernel) rfl, qa_m0 6 (by decide +kernel) rfl, qa_m1 4 (by decide +kernel) rfl, w_RL_placeOf, ⟨rfl, by decide, by decide, by decide +kernel⟩⟩
theorem k_RL_77 : qa_LV "VotedFrames$Relay" "VotedFrames$Relay" 77 y_RL_got b_RL_got 4 (some .int) 3 := ⟨qa_m2 80 (by decide +kernel) rfl, qa_m2 82 (by decide +kernel) rfl, qa_m0 7 (by decide +kernel) rfl, qa_m1 4 (by decide +kernel) rfl, w_RL_got, ⟨rfl, by decide, by decide, by decide +kernel⟩⟩
theorem k_RL_70 : qa_LV "VotedFrames$Relay" "VotedFrames$Node" 70 y_ND_says b_ND_says 4 (some .int) 3 := ⟨qa_m2 84 (by decide +kernel) rfl, qa_m2 85 (by decide +kernel) rfl, qa_m2 86 (by decide +kernel) rfl, qa_m1 3 (by decide +kernel) rfl, w_ND_says, ⟨rfl, by decide, by decide, by decide +kernel⟩⟩
theorem k_RL_80 : qa_LV "VotedFrames$Relay" "VotedFrames$Relay" 80 y_RL_follow b_RL_follow 3 (some .int) 2 := ⟨qa_m2 88 (by decide +kernel) rfl, qa_m2 90 (by decide +kernel) rfl, qa_m0 8 (by decide +kernel) rfl, qa_m1 4 (by decide +kernel) rfl, w_RL_follow, ⟨rfl, by decide, by decide, by decide +kernel⟩⟩
theorem k_VF_204 : qa_LV "VotedFrames" "VotedFrames$Relay" 204 y_RL_agreedBy b_RL_agreedBy 3 (some .int) 1 := ⟨qa_m2 92 (by decide +kernel) rfl, qa_m2 93 (by decide +kernel) rfl, qa_m2 94 (by decide +kernel) rfl, qa_m1 4 (by decide +kernel) rfl, w_RL_agreedBy, ⟨rfl, by decide, by decide, by decide +kernel⟩⟩
theorem k_RL_63 : qa_LV "VotedFrames$Relay" "VotedFrames$Relay" 63 y_RL_make b_RL_make 10 (some .int) 4 := ⟨qa_m2 96 (by decide +kernel) rfl, qa_m2 98 (by decide +kernel) rfl, qa_m0 9 (by decide +kernel) rfl, qa_m1 4 (by decide +kernel) rfl, w_RL_make, ⟨rfl, by decide, by decide, by decide +kernel⟩⟩
theorem k_VF_182 : qa_LV "VotedFrames" "VotedFrames" 182 y_VF_runDueTasks b_VF_runDueTasks 4 none 0 := ⟨qa_m2 103 (by decide +kernel) rfl, qa_m2 105 (by decide +kernel) rfl, qa_m0 10 (by decide +kernel) rfl, qa_m1 1 (by decide +kernel) rfl, w_VF_runDueTasks, ⟨rfl, by decide, by decide, by decide +kernel⟩⟩
theorem k_VF_152 : qa_LV "VotedFrames" "VotedFrames" 152 y_VF_leastCorrect b_VF_leastCorrect 2 (some .int) 0 := ⟨qa_m2 107 (by decide +kernel) rfl, qa_m2 109 (by decide +kernel) rfl, qa_m0 11 (by decide +kernel) rfl, qa_m1 1 (by decide +kernel) rfl, w_VF_leastCorrect, ⟨rfl, by decide, by decide, by decide +kernel⟩⟩
theorem k_VF_207 : qa_LV "VotedFrames" "VotedFrames$Task" 207 y_TK_isDueIn b_TK_isDueIn 2 (some .boolean) 1 := ⟨qa_m2 111 (by decide +kernel) rfl, qa_m2 112 (by decide +kernel) rfl, qa_m2 113 (by decide +kernel) rfl, qa_m1 5 (by decide +kernel) rfl, w_TK_isDueIn, ⟨rfl, by decide, by decide, by decide +kernel⟩⟩
theorem k_VF_210 : qa_LV "VotedFrames" "VotedFrames" 210 y_VF_runOnAllNodes b_VF_runOnAllNodes 3 none 1 := ⟨qa_m2 115 (by decide +kernel) rfl, qa_m2 117 (by decide +kernel) rfl, qa_m0 12 (by decide +kernel) rfl, qa_m1 1 (by decide +kernel) rfl, w_VF_runOnAllNodes, ⟨rfl, by decide, by decide, by decide +kernel⟩⟩
theorem k_VF_213 : qa_LV "VotedFrames" "VotedFrames$StackMachine" 213 y_SM_resultOf b_SM_resultOf 11 (some .int) 3 := ⟨qa_m2 119 (by decide +kernel) rfl, qa_m2 120 (by decide +kernel) rfl, qa_m2 121 (by decide +kernel) rfl, qa_m1 6 (by decide +kernel) rfl, w_SM_resultOf, ⟨rfl, by decide, by decide, by decide +kernel⟩⟩
theorem k_SM_30 : qa_LV "VotedFrames$StackMachine" "VotedFrames$StackMachine" 30 y_SM_refusalOf b_SM_refusalOf 3 (some .int) 1 := ⟨qa_m2 123 (by decide +kernel) rfl, qa_m2 125 (by decide +kernel) rfl, qa_m0 13 (by decide +kernel) rfl, qa_m1 6 (by decide +kernel) rfl, w_SM_refusalOf, ⟨rfl, by decide, by decide, by decide +kernel⟩⟩
theorem k_SM_51 : qa_LS "VotedFrames$StackMachine" 51 y_SM_needs b_SM_needs 1 (some .int) 1 := ⟨qa_m2 127 (by decide +kernel) rfl, qa_m2 128 (by decide +kernel) rfl, qa_m1 6 (by decide +kernel) rfl, w_SM_needs, ⟨by decide, by decide, by decide +kernel⟩⟩
theorem k_SM_34 : qa_LV "VotedFrames$StackMachine" "VotedFrames$StackMachine" 34 y_SM_pop b_SM_pop 1 (some .int) 0 := ⟨qa_m2 133 (by decide +kernel) rfl, qa_m2 135 (by decide +kernel) rfl, qa_m0 14 (by decide +kernel) rfl, qa_m1 6 (by decide +kernel) rfl, w_SM_pop, ⟨rfl, by decide, by decide, by decide +kernel⟩⟩
theorem k_SM_38 : qa_LS "VotedFrames$StackMachine" 38 y_SM_combine b_SM_combine 3 (some .int) 3 := ⟨qa_m2 137 (by decide +kernel) rfl, qa_m2 138 (by decide +kernel) rfl, qa_m1 6 (by decide +kernel) rfl, w_SM_combine, ⟨by decide, by decide, by decide +kernel⟩⟩
theorem k_SM_56 : qa_LS "VotedFrames$StackMachine" 56 y_JM_floorDiv b_JM_floorDiv 3 (some .int) 2 := ⟨qa_m2 140 (by decide +kernel) rfl, qa_m2 141 (by decide +kernel) rfl, qa_m1 2 (by decide +kernel) rfl, w_JM_floorDiv, ⟨by decide, by decide, by decide +kernel⟩⟩
theorem k_SM_42 : qa_LV "VotedFrames$StackMachine" "VotedFrames$StackMachine" 42 y_SM_push b_SM_push 2 none 1 := ⟨qa_m2 143 (by decide +kernel) rfl, qa_m2 145 (by decide +kernel) rfl, qa_m0 15 (by decide +kernel) rfl, qa_m1 6 (by decide +kernel) rfl, w_SM_push, ⟨rfl, by decide, by decide, by decide +kernel⟩⟩
theorem k_SM_46 : qa_LV "VotedFrames$StackMachine" "VotedFrames$StackMachine" 46 y_SM_fetch b_SM_fetch 5 (some .int) 4 := ⟨qa_m2 147 (by decide +kernel) rfl, qa_m2 149 (by decide +kernel) rfl, qa_m0 16 (by decide +kernel) rfl, qa_m1 6 (by decide +kernel) rfl, w_SM_fetch, ⟨rfl, by decide, by decide, by decide +kernel⟩⟩
theorem k_VF_217 : qa_LV "VotedFrames" "VotedFrames" 217 y_VF_vote b_VF_vote 5 none 2 := ⟨qa_m2 151 (by decide +kernel) rfl, qa_m2 153 (by decide +kernel) rfl, qa_m0 17 (by decide +kernel) rfl, qa_m1 1 (by decide +kernel) rfl, w_VF_vote, ⟨rfl, by decide, by decide, by decide +kernel⟩⟩
theorem k_VF_221 : qa_LV "VotedFrames" "VotedFrames" 221 y_VF_fillBallot b_VF_fillBallot 4 (some .int) 1 := ⟨qa_m2 155 (by decide +kernel) rfl, qa_m2 157 (by decide +kernel) rfl, qa_m0 18 (by decide +kernel) rfl, qa_m1 1 (by decide +kernel) rfl, w_VF_fillBallot, ⟨rfl, by decide, by decide, by decide +kernel⟩⟩
theorem k_VF_239 : qa_LS "VotedFrames" 239 y_VF_contains b_VF_contains 2 (some .boolean) 2 := ⟨qa_m2 159 (by decide +kernel) rfl, qa_m2 40 (by decide +kernel) rfl, qa_m1 1 (by decide +kernel) rfl, w_VF_contains, ⟨by decide, by decide, by decide +kernel⟩⟩
theorem k_VF_242 : qa_LV "VotedFrames" "VotedFrames$Node" 242 y_ND_says b_ND_says 4 (some .int) 3 := ⟨qa_m2 160 (by decide +kernel) rfl, qa_m2 85 (by decide +kernel) rfl, qa_m2 86 (by decide +kernel) rfl, qa_m1 3 (by decide +kernel) rfl, w_ND_says, ⟨rfl, by decide, by decide, by decide +kernel⟩⟩
theorem k_VF_225 : qa_LV "VotedFrames" "VotedFrames$Node" 225 y_ND_memberCount b_ND_memberCount 1 (some .int) 0 := ⟨qa_m2 161 (by decide +kernel) rfl, qa_m2 52 (by decide +kernel) rfl, qa_m2 53 (by decide +kernel) rfl, qa_m1 3 (by decide +kernel) rfl, w_ND_memberCount, ⟨rfl, by decide, by decide, by decide +kernel⟩⟩
theorem k_VF_228 : qa_LS "VotedFrames" 228 y_VF_majorityPlace b_VF_majorityPlace 6 (some .int) 3 := ⟨qa_m2 162 (by decide +kernel) rfl, qa_m2 101 (by decide +kernel) rfl, qa_m1 1 (by decide +kernel) rfl, w_VF_majorityPlace, ⟨by decide, by decide, by decide +kernel⟩⟩
theorem k_VF_232 : qa_LV "VotedFrames" "VotedFrames" 232 y_VF_dissentersFrom b_VF_dissentersFrom 5 (some .int) 2 := ⟨qa_m2 163 (by decide +kernel) rfl, qa_m2 165 (by decide +kernel) rfl, qa_m0 19 (by decide +kernel) rfl, qa_m1 1 (by decide +kernel) rfl, w_VF_dissentersFrom, ⟨rfl, by decide, by decide, by decide +kernel⟩⟩
theorem k_VF_185 : qa_LV "VotedFrames" "VotedFrames" 185 y_VF_agreeOnAccused b_VF_agreeOnAccused 4 none 0 := ⟨qa_m2 167 (by decide +kernel) rfl, qa_m2 169 (by decide +kernel) rfl, qa_m0 20 (by decide +kernel) rfl, qa_m1 1 (by decide +kernel) rfl, w_VF_agreeOnAccused, ⟨rfl, by decide, by decide, by decide +kernel⟩⟩
theorem k_VF_188 : qa_LV "VotedFrames" "VotedFrames" 188 y_VF_strikeOut b_VF_strikeOut 4 (some .int) 0 := ⟨qa_m2 171 (by decide +kernel) rfl, qa_m2 173 (by decide +kernel) rfl, qa_m0 21 (by decide +kernel) rfl, qa_m1 1 (by decide +kernel) rfl, w_VF_strikeOut, ⟨rfl, by decide, by decide, by decide +kernel⟩⟩
theorem k_VF_245 : qa_LV "VotedFrames" "VotedFrames" 245 y_VF_convictedBy b_VF_convictedBy 5 (some .int) 1 := ⟨qa_m2 175 (by decide +kernel) rfl, qa_m2 177 (by decide +kernel) rfl, qa_m0 22 (by decide +kernel) rfl, qa_m1 1 (by decide +kernel) rfl, w_VF_convictedBy, ⟨rfl, by decide, by decide, by decide +kernel⟩⟩
theorem k_VF_145 : qa_LV "VotedFrames" "VotedFrames$Node" 145 y_ND_bearable b_ND_bearable 2 (some .int) 1 := ⟨qa_m2 179 (by decide +kernel) rfl, qa_m2 48 (by decide +kernel) rfl, qa_m2 49 (by decide +kernel) rfl, qa_m1 3 (by decide +kernel) rfl, w_ND_bearable, ⟨rfl, by decide, by decide, by decide +kernel⟩⟩
theorem k_VF_253 : qa_LV "VotedFrames" "VotedFrames$Node" 253 y_ND_accusersOf b_ND_accusersOf 4 (some .int) 1 := ⟨qa_m2 180 (by decide +kernel) rfl, qa_m2 181 (by decide +kernel) rfl, qa_m2 182 (by decide +kernel) rfl, qa_m1 3 (by decide +kernel) rfl, w_ND_accusersOf, ⟨rfl, by decide, by decide, by decide +kernel⟩⟩
theorem k_VF_248 : qa_LS "VotedFrames" 248 y_JI_bitCount b_JI_bitCount 1 (some .int) 1 := ⟨qa_m2 184 (by decide +kernel) rfl, qa_m2 56 (by decide +kernel) rfl, qa_m1 8 (by decide +kernel) rfl, w_JI_bitCount, ⟨by decide, by decide, by decide +kernel⟩⟩
theorem k_VF_191 : qa_LV "VotedFrames" "VotedFrames" 191 y_VF_correctClocks b_VF_correctClocks 2 none 0 := ⟨qa_m2 185 (by decide +kernel) rfl, qa_m2 187 (by decide +kernel) rfl, qa_m0 23 (by decide +kernel) rfl, qa_m1 1 (by decide +kernel) rfl, w_VF_correctClocks, ⟨rfl, by decide, by decide, by decide +kernel⟩⟩
theorem k_VF_256 : qa_LV "VotedFrames" "VotedFrames" 256 y_VF_correctionFor b_VF_correctionFor 5 (some .int) 1 := ⟨qa_m2 189 (by decide +kernel) rfl, qa_m2 191 (by decide +kernel) rfl, qa_m0 24 (by decide +kernel) rfl, qa_m1 1 (by decide +kernel) rfl, w_VF_correctionFor, ⟨rfl, by decide, by decide, by decide +kernel⟩⟩
theorem k_VF_259 : qa_LV "VotedFrames" "VotedFrames$Node" 259 y_ND_differenceTo b_ND_differenceTo 2 (some .int) 1 := ⟨qa_m2 193 (by decide +kernel) rfl, qa_m2 194 (by decide +kernel) rfl, qa_m2 195 (by decide +kernel) rfl, qa_m1 3 (by decide +kernel) rfl, w_ND_differenceTo, ⟨rfl, by decide, by decide, by decide +kernel⟩⟩
theorem k_ND_70 : qa_LV "VotedFrames$Node" "VotedFrames$Node" 70 y_ND_shows b_ND_shows 2 (some .int) 1 := ⟨qa_m2 197 (by decide +kernel) rfl, qa_m2 198 (by decide +kernel) rfl, qa_m2 199 (by decide +kernel) rfl, qa_m1 3 (by decide +kernel) rfl, w_ND_shows, ⟨rfl, by decide, by decide, by decide +kernel⟩⟩
theorem k_ND_66 : qa_LV "VotedFrames$Node" "VotedFrames$Node" 66 y_ND_says b_ND_says 4 (some .int) 3 := ⟨qa_m2 201 (by decide +kernel) rfl, qa_m2 85 (by decide +kernel) rfl, qa_m2 86 (by decide +kernel) rfl, qa_m1 3 (by decide +kernel) rfl, w_ND_says, ⟨rfl, by decide, by decide, by decide +kernel⟩⟩
theorem k_VF_262 : qa_LS "VotedFrames" 262 y_JM_floorDiv b_JM_floorDiv 3 (some .int) 2 := ⟨qa_m2 202 (by decide +kernel) rfl, qa_m2 141 (by decide +kernel) rfl, qa_m1 2 (by decide +kernel) rfl, w_JM_floorDiv, ⟨by decide, by decide, by decide +kernel⟩⟩
theorem k_LW_57 : qa_LV "VotedFramesLaw" "VotedFrames" 57 y_VF_frame b_VF_frame 1 (some .int) 0 := ⟨qa_m2 203 (by decide +kernel) rfl, qa_m2 204 (by decide +kernel) rfl, qa_m2 205 (by decide +kernel) rfl, qa_m1 1 (by decide +kernel) rfl, w_VF_frame, ⟨rfl, by decide, by decide, by decide +kernel⟩⟩
theorem k_LW_62 : qa_LV "VotedFramesLaw" "VotedFrames" 62 y_VF_reading b_VF_reading 2 (some .int) 1 := ⟨qa_m2 207 (by decide +kernel) rfl, qa_m2 208 (by decide +kernel) rfl, qa_m2 209 (by decide +kernel) rfl, qa_m1 1 (by decide +kernel) rfl, w_VF_reading, ⟨rfl, by decide, by decide, by decide +kernel⟩⟩
theorem k_LW_66 : qa_LV "VotedFramesLaw" "VotedFrames" 66 y_VF_correction b_VF_correction 2 (some .int) 1 := ⟨qa_m2 211 (by decide +kernel) rfl, qa_m2 212 (by decide +kernel) rfl, qa_m2 213 (by decide +kernel) rfl, qa_m1 1 (by decide +kernel) rfl, w_VF_correction, ⟨rfl, by decide, by decide, by decide +kernel⟩⟩
theorem k_LW_70 : qa_LV "VotedFramesLaw" "VotedFrames" 70 y_VF_input b_VF_input 3 (some .int) 2 := ⟨qa_m2 215 (by decide +kernel) rfl, qa_m2 216 (by decide +kernel) rfl, qa_m2 217 (by decide +kernel) rfl, qa_m1 1 (by decide +kernel) rfl, w_VF_input, ⟨rfl, by decide, by decide, by decide +kernel⟩⟩
theorem k_LW_75 : qa_LV "VotedFramesLaw" "VotedFrames" 75 y_VF_charge b_VF_charge 3 (some .int) 2 := ⟨qa_m2 219 (by decide +kernel) rfl, qa_m2 220 (by decide +kernel) rfl, qa_m2 221 (by decide +kernel) rfl, qa_m1 1 (by decide +kernel) rfl, w_VF_charge, ⟨rfl, by decide, by decide, by decide +kernel⟩⟩
theorem k_LW_79 : qa_LV "VotedFramesLaw" "VotedFrames" 79 y_VF_word b_VF_word 3 (some .int) 2 := ⟨qa_m2 223 (by decide +kernel) rfl, qa_m2 224 (by decide +kernel) rfl, qa_m2 225 (by decide +kernel) rfl, qa_m1 1 (by decide +kernel) rfl, w_VF_word, ⟨rfl, by decide, by decide, by decide +kernel⟩⟩
theorem k_LW_83 : qa_LV "VotedFramesLaw" "VotedFrames" 83 y_VF_members b_VF_members 2 (some .int) 1 := ⟨qa_m2 227 (by decide +kernel) rfl, qa_m2 228 (by decide +kernel) rfl, qa_m2 229 (by decide +kernel) rfl, qa_m1 1 (by decide +kernel) rfl, w_VF_members, ⟨rfl, by decide, by decide, by decide +kernel⟩⟩
theorem k_LW_87 : qa_LV "VotedFramesLaw" "VotedFrames" 87 y_VF_bears b_VF_bears 2 (some .int) 1 := ⟨qa_m2 231 (by decide +kernel) rfl, qa_m2 232 (by decide +kernel) rfl, qa_m2 233 (by decide +kernel) rfl, qa_m1 1 (by decide +kernel) rfl, w_VF_bears, ⟨rfl, by decide, by decide, by decide +kernel⟩⟩
theorem k_LW_91 : qa_LV "VotedFramesLaw" "VotedFrames" 91 y_VF_accused b_VF_accused 2 (some .int) 1 := ⟨qa_m2 235 (by decide +kernel) rfl, qa_m2 236 (by decide +kernel) rfl, qa_m2 237 (by decide +kernel) rfl, qa_m1 1 (by decide +kernel) rfl, w_VF_accused, ⟨rfl, by decide, by decide, by decide +kernel⟩⟩
theorem k_LW_95 : qa_LV "VotedFramesLaw" "VotedFrames" 95 y_VF_spread b_VF_spread 5 (some .int) 0 := ⟨qa_m2 239 (by decide +kernel) rfl, qa_m3 0 (by decide +kernel) rfl, qa_m3 1 (by decide +kernel) rfl, qa_m1 1 (by decide +kernel) rfl, w_VF_spread, ⟨rfl, by decide, by decide, by decide +kernel⟩⟩
theorem k_LW_99 : qa_LV "VotedFramesLaw" "VotedFrames" 99 y_VF_alike b_VF_alike 3 (some .boolean) 0 := ⟨qa_m3 3 (by decide +kernel) rfl, qa_m3 4 (by decide +kernel) rfl, qa_m3 5 (by decide +kernel) rfl, qa_m1 1 (by decide +kernel) rfl, w_VF_alike, ⟨rfl, by decide, by decide, by decide +kernel⟩⟩
theorem k_VF_164 : qa_LV "VotedFrames" "VotedFrames$Node" 164 y_ND_holdsTheSameAs b_ND_holdsTheSameAs 2 (some .boolean) 1 := ⟨qa_m3 7 (by decide +kernel) rfl, qa_m3 8 (by decide +kernel) rfl, qa_m3 9 (by decide +kernel) rfl, qa_m1 3 (by decide +kernel) rfl, w_ND_holdsTheSameAs, ⟨rfl, by decide, by decide, by decide +kernel⟩⟩
theorem k_ND_73 : qa_LS "VotedFrames$Node" 73 y_ND_sameRow b_ND_sameRow 3 (some .boolean) 2 := ⟨qa_m3 11 (by decide +kernel) rfl, qa_m3 12 (by decide +kernel) rfl, qa_m1 3 (by decide +kernel) rfl, w_ND_sameRow, ⟨by decide, by decide, by decide +kernel⟩⟩
theorem k_LW_104 : qa_LV "VotedFramesLaw" "VotedFrames" 104 y_VF_solo b_VF_solo 2 (some .int) 1 := ⟨qa_m3 14 (by decide +kernel) rfl, qa_m3 15 (by decide +kernel) rfl, qa_m3 16 (by decide +kernel) rfl, qa_m1 1 (by decide +kernel) rfl, w_VF_solo, ⟨rfl, by decide, by decide, by decide +kernel⟩⟩
theorem k_LW_9 : qa_LS "VotedFramesLaw" 9 y_LW_cell b_LW_cell 2 (some .int) 2 := ⟨qa_m3 18 (by decide +kernel) rfl, qa_m3 19 (by decide +kernel) rfl, qa_m1 0 (by decide +kernel) rfl, w_LW_cell, ⟨by decide, by decide, by decide +kernel⟩⟩
theorem k_LW_25 : qa_LV "VotedFramesLaw" "VotedFramesModel" 25 y_MD_clock b_MD_clock 4 (some .boolean) 3 := ⟨qa_m3 109 (by decide +kernel) rfl, qa_m3 110 (by decide +kernel) rfl, qa_m3 111 (by decide +kernel) rfl, qa_m1 7 (by decide +kernel) rfl, w_MD_clock, ⟨rfl, by decide, by decide, by decide +kernel⟩⟩
theorem k_MD_83 : qa_LV "VotedFramesModel" "VotedFramesModel" 83 y_MD_node b_MD_node 2 (some .boolean) 1 := ⟨qa_m3 113 (by decide +kernel) rfl, qa_m3 115 (by decide +kernel) rfl, qa_m0 25 (by decide +kernel) rfl, qa_m1 7 (by decide +kernel) rfl, w_MD_node, ⟨rfl, by decide, by decide, by decide +kernel⟩⟩
theorem k_LW_30 : qa_LV "VotedFramesLaw" "VotedFramesModel" 30 y_MD_link b_MD_link 5 (some .boolean) 4 := ⟨qa_m3 117 (by decide +kernel) rfl, qa_m3 118 (by decide +kernel) rfl, qa_m3 119 (by decide +kernel) rfl, qa_m1 7 (by decide +kernel) rfl, w_MD_link, ⟨rfl, by decide, by decide, by decide +kernel⟩⟩
theorem k_LW_35 : qa_LV "VotedFramesLaw" "VotedFramesModel" 35 y_MD_sensor b_MD_sensor 3 (some .boolean) 2 := ⟨qa_m3 121 (by decide +kernel) rfl, qa_m3 122 (by decide +kernel) rfl, qa_m3 123 (by decide +kernel) rfl, qa_m1 7 (by decide +kernel) rfl, w_MD_sensor, ⟨rfl, by decide, by decide, by decide +kernel⟩⟩
theorem k_LW_39 : qa_LV "VotedFramesLaw" "VotedFramesModel" 39 y_MD_fault b_MD_fault 4 (some .boolean) 3 := ⟨qa_m3 125 (by decide +kernel) rfl, qa_m3 126 (by decide +kernel) rfl, qa_m3 127 (by decide +kernel) rfl, qa_m1 7 (by decide +kernel) rfl, w_MD_fault, ⟨rfl, by decide, by decide, by decide +kernel⟩⟩
theorem k_LW_43 : qa_LV "VotedFramesLaw" "VotedFramesModel" 43 y_MD_code b_MD_code 4 (some .boolean) 3 := ⟨qa_m3 129 (by decide +kernel) rfl, qa_m3 130 (by decide +kernel) rfl, qa_m3 131 (by decide +kernel) rfl, qa_m1 7 (by decide +kernel) rfl, w_MD_code, ⟨rfl, by decide, by decide, by decide +kernel⟩⟩
theorem k_MD_87 : qa_LS "VotedFramesModel" 87 y_MD_task b_MD_task 1 (some .boolean) 1 := ⟨qa_m3 133 (by decide +kernel) rfl, qa_m3 134 (by decide +kernel) rfl, qa_m1 7 (by decide +kernel) rfl, w_MD_task, ⟨by decide, by decide, by decide +kernel⟩⟩
theorem k_LW_48 : qa_LV "VotedFramesLaw" "VotedFramesModel" 48 y_MD_clear b_MD_clear 3 (some .int) 1 := ⟨qa_m3 136 (by decide +kernel) rfl, qa_m3 137 (by decide +kernel) rfl, qa_m3 138 (by decide +kernel) rfl, qa_m1 7 (by decide +kernel) rfl, w_MD_clear, ⟨rfl, by decide, by decide, by decide +kernel⟩⟩
theorem k_LW_52 : qa_LV "VotedFramesLaw" "VotedFramesModel" 52 y_MD_due b_MD_due 4 (some .boolean) 3 := ⟨qa_m3 140 (by decide +kernel) rfl, qa_m3 141 (by decide +kernel) rfl, qa_m3 142 (by decide +kernel) rfl, qa_m1 7 (by decide +kernel) rfl, w_MD_due, ⟨rfl, by decide, by decide, by decide +kernel⟩⟩
theorem k_LW_56 : qa_LV "VotedFramesLaw" "VotedFramesModel" 56 y_MD_run b_MD_run 3 (some .int) 1 := ⟨qa_m3 144 (by decide +kernel) rfl, qa_m3 145 (by decide +kernel) rfl, qa_m3 146 (by decide +kernel) rfl, qa_m1 7 (by decide +kernel) rfl, w_MD_run, ⟨rfl, by decide, by decide, by decide +kernel⟩⟩
theorem k_MD_173 : qa_LV "VotedFramesModel" "VotedFramesModel" 173 y_MD_one b_MD_one 3 none 0 := ⟨qa_m3 148 (by decide +kernel) rfl, qa_m3 150 (by decide +kernel) rfl, qa_m0 26 (by decide +kernel) rfl, qa_m1 7 (by decide +kernel) rfl, w_MD_one, ⟨rfl, by decide, by decide, by decide +kernel⟩⟩
theorem k_MD_161 : qa_LV "VotedFramesModel" "VotedFramesModel" 161 y_MD_agrees b_MD_agrees 4 (some .int) 3 := ⟨qa_m3 152 (by decide +kernel) rfl, qa_m3 154 (by decide +kernel) rfl, qa_m0 27 (by decide +kernel) rfl, qa_m1 7 (by decide +kernel) rfl, w_MD_agrees, ⟨rfl, by decide, by decide, by decide +kernel⟩⟩
theorem k_MD_90 : qa_LV "VotedFramesModel" "VotedFramesModel" 90 y_MD_member b_MD_member 3 (some .boolean) 2 := ⟨qa_m3 156 (by decide +kernel) rfl, qa_m3 158 (by decide +kernel) rfl, qa_m0 28 (by decide +kernel) rfl, qa_m1 7 (by decide +kernel) rfl, w_MD_member, ⟨rfl, by decide, by decide, by decide +kernel⟩⟩
theorem k_MD_123 : qa_LV "VotedFramesModel" "VotedFramesModel" 123 y_MD_makesOfOne b_MD_makesOfOne 7 (some .int) 3 := ⟨qa_m3 160 (by decide +kernel) rfl, qa_m3 162 (by decide +kernel) rfl, qa_m0 29 (by decide +kernel) rfl, qa_m1 7 (by decide +kernel) rfl, w_MD_makesOfOne, ⟨rfl, by decide, by decide, by decide +kernel⟩⟩
theorem k_MD_107 : qa_LV "VotedFramesModel" "VotedFramesModel" 107 y_MD_holds b_MD_holds 8 (some .int) 5 := ⟨qa_m3 164 (by decide +kernel) rfl, qa_m3 166 (by decide +kernel) rfl, qa_m0 30 (by decide +kernel) rfl, qa_m1 7 (by decide +kernel) rfl, w_MD_holds, ⟨rfl, by decide, by decide, by decide +kernel⟩⟩
theorem k_MD_104 : qa_LV "VotedFramesModel" "VotedFramesModel" 104 y_MD_sent b_MD_sent 4 (some .int) 3 := ⟨qa_m3 168 (by decide +kernel) rfl, qa_m3 170 (by decide +kernel) rfl, qa_m0 31 (by decide +kernel) rfl, qa_m1 7 (by decide +kernel) rfl, w_MD_sent, ⟨rfl, by decide, by decide, by decide +kernel⟩⟩
theorem k_MD_97 : qa_LV "VotedFramesModel" "VotedFramesModel" 97 y_MD_through b_MD_through 4 (some .boolean) 2 := ⟨qa_m3 172 (by decide +kernel) rfl, qa_m3 174 (by decide +kernel) rfl, qa_m0 32 (by decide +kernel) rfl, qa_m1 7 (by decide +kernel) rfl, w_MD_through, ⟨rfl, by decide, by decide, by decide +kernel⟩⟩
theorem k_MD_100 : qa_LV "VotedFramesModel" "VotedFramesModel" 100 y_MD_says b_MD_says 5 (some .int) 3 := ⟨qa_m3 176 (by decide +kernel) rfl, qa_m3 178 (by decide +kernel) rfl, qa_m0 33 (by decide +kernel) rfl, qa_m1 7 (by decide +kernel) rfl, w_MD_says, ⟨rfl, by decide, by decide, by decide +kernel⟩⟩
theorem k_MD_111 : qa_LV "VotedFramesModel" "VotedFramesModel" 111 y_MD_bears b_MD_bears 3 (some .int) 1 := ⟨qa_m3 180 (by decide +kernel) rfl, qa_m3 181 (by decide +kernel) rfl, qa_m3 182 (by decide +kernel) rfl, qa_m1 7 (by decide +kernel) rfl, w_MD_bears, ⟨rfl, by decide, by decide, by decide +kernel⟩⟩
theorem k_MD_142 : qa_LV "VotedFramesModel" "VotedFramesModel" 142 y_MD_size b_MD_size 4 (some .int) 1 := ⟨qa_m3 184 (by decide +kernel) rfl, qa_m3 186 (by decide +kernel) rfl, qa_m0 34 (by decide +kernel) rfl, qa_m1 7 (by decide +kernel) rfl, w_MD_size, ⟨rfl, by decide, by decide, by decide +kernel⟩⟩
theorem k_MD_119 : qa_LV "VotedFramesModel" "VotedFramesModel" 119 y_MD_makesOfTwo b_MD_makesOfTwo 8 (some .int) 4 := ⟨qa_m3 188 (by decide +kernel) rfl, qa_m3 190 (by decide +kernel) rfl, qa_m0 35 (by decide +kernel) rfl, qa_m1 7 (by decide +kernel) rfl, w_MD_makesOfTwo, ⟨rfl, by decide, by decide, by decide +kernel⟩⟩
theorem k_MD_115 : qa_LV "VotedFramesModel" "VotedFramesModel" 115 y_MD_majority b_MD_majority 6 (some .int) 2 := ⟨qa_m3 192 (by decide +kernel) rfl, qa_m3 194 (by decide +kernel) rfl, qa_m0 36 (by decide +kernel) rfl, qa_m1 7 (by decide +kernel) rfl, w_MD_majority, ⟨rfl, by decide, by decide, by decide +kernel⟩⟩
theorem k_MD_164 : qa_LV "VotedFramesModel" "VotedFramesModel" 164 y_MD_tasks b_MD_tasks 5 none 0 := ⟨qa_m3 196 (by decide +kernel) rfl, qa_m3 198 (by decide +kernel) rfl, qa_m0 37 (by decide +kernel) rfl, qa_m1 7 (by decide +kernel) rfl, w_MD_tasks, ⟨rfl, by decide, by decide, by decide +kernel⟩⟩
theorem k_MD_145 : qa_LV "VotedFramesModel" "VotedFramesModel" 145 y_MD_isDue b_MD_isDue 2 (some .boolean) 1 := ⟨qa_m3 200 (by decide +kernel) rfl, qa_m3 202 (by decide +kernel) rfl, qa_m0 38 (by decide +kernel) rfl, qa_m1 7 (by decide +kernel) rfl, w_MD_isDue, ⟨rfl, by decide, by decide, by decide +kernel⟩⟩
theorem k_MD_148 : qa_LV "VotedFramesModel" "VotedFramesModel" 148 y_MD_play b_MD_play 11 (some .int) 3 := ⟨qa_m3 204 (by decide +kernel) rfl, qa_m3 206 (by decide +kernel) rfl, qa_m0 39 (by decide +kernel) rfl, qa_m1 7 (by decide +kernel) rfl, w_MD_play, ⟨rfl, by decide, by decide, by decide +kernel⟩⟩
theorem k_MD_135 : qa_LS "VotedFramesModel" 135 y_MD_two b_MD_two 3 (some .int) 3 := ⟨qa_m3 211 (by decide +kernel) rfl, qa_m3 212 (by decide +kernel) rfl, qa_m1 7 (by decide +kernel) rfl, w_MD_two, ⟨by decide, by decide, by decide +kernel⟩⟩
theorem k_MD_126 : qa_LS "VotedFramesModel" 126 y_MD_down b_MD_down 3 (some .int) 2 := ⟨qa_m3 214 (by decide +kernel) rfl, qa_m3 215 (by decide +kernel) rfl, qa_m1 7 (by decide +kernel) rfl, w_MD_down, ⟨by decide, by decide, by decide +kernel⟩⟩
theorem k_MD_138 : qa_LV "VotedFramesModel" "VotedFramesModel" 138 y_MD_push b_MD_push 2 none 1 := ⟨qa_m3 217 (by decide +kernel) rfl, qa_m3 219 (by decide +kernel) rfl, qa_m0 40 (by decide +kernel) rfl, qa_m1 7 (by decide +kernel) rfl, w_MD_push, ⟨rfl, by decide, by decide, by decide +kernel⟩⟩
theorem k_MD_151 : qa_LV "VotedFramesModel" "VotedFramesModel" 151 y_MD_vote b_MD_vote 10 none 2 := ⟨qa_m3 221 (by decide +kernel) rfl, qa_m3 223 (by decide +kernel) rfl, qa_m0 41 (by decide +kernel) rfl, qa_m1 7 (by decide +kernel) rfl, w_MD_vote, ⟨rfl, by decide, by decide, by decide +kernel⟩⟩
theorem k_MD_167 : qa_LV "VotedFramesModel" "VotedFramesModel" 167 y_MD_strike b_MD_strike 7 none 1 := ⟨qa_m3 225 (by decide +kernel) rfl, qa_m3 227 (by decide +kernel) rfl, qa_m0 42 (by decide +kernel) rfl, qa_m1 7 (by decide +kernel) rfl, w_MD_strike, ⟨rfl, by decide, by decide, by decide +kernel⟩⟩
theorem k_MD_170 : qa_LV "VotedFramesModel" "VotedFramesModel" 170 y_MD_mean b_MD_mean 5 (some .int) 1 := ⟨qa_m3 229 (by decide +kernel) rfl, qa_m3 231 (by decide +kernel) rfl, qa_m0 43 (by decide +kernel) rfl, qa_m1 7 (by decide +kernel) rfl, w_MD_mean, ⟨rfl, by decide, by decide, by decide +kernel⟩⟩
theorem k_MD_158 : qa_LV "VotedFramesModel" "VotedFramesModel" 158 y_MD_shows b_MD_shows 5 (some .int) 2 := ⟨qa_m3 233 (by decide +kernel) rfl, qa_m3 235 (by decide +kernel) rfl, qa_m0 44 (by decide +kernel) rfl, qa_m1 7 (by decide +kernel) rfl, w_MD_shows, ⟨rfl, by decide, by decide, by decide +kernel⟩⟩
theorem k_LW_61 : qa_LV "VotedFramesLaw" "VotedFramesModel" 61 y_MD_frame b_MD_frame 1 (some .int) 0 := ⟨qa_m3 237 (by decide +kernel) rfl, qa_m3 238 (by decide +kernel) rfl, qa_m3 239 (by decide +kernel) rfl, qa_m1 7 (by decide +kernel) rfl, w_MD_frame, ⟨rfl, by decide, by decide, by decide +kernel⟩⟩
theorem k_LW_65 : qa_LV "VotedFramesLaw" "VotedFramesModel" 65 y_MD_reading b_MD_reading 2 (some .int) 1 := ⟨qa_m4 1 (by decide +kernel) rfl, qa_m4 2 (by decide +kernel) rfl, qa_m4 3 (by decide +kernel) rfl, qa_m1 7 (by decide +kernel) rfl, w_MD_reading, ⟨rfl, by decide, by decide, by decide +kernel⟩⟩
theorem k_LW_69 : qa_LV "VotedFramesLaw" "VotedFramesModel" 69 y_MD_correction b_MD_correction 2 (some .int) 1 := ⟨qa_m4 5 (by decide +kernel) rfl, qa_m4 6 (by decide +kernel) rfl, qa_m4 7 (by decide +kernel) rfl, qa_m1 7 (by decide +kernel) rfl, w_MD_correction, ⟨rfl, by decide, by decide, by decide +kernel⟩⟩
theorem k_LW_74 : qa_LV "VotedFramesLaw" "VotedFramesModel" 74 y_MD_input b_MD_input 3 (some .int) 2 := ⟨qa_m4 9 (by decide +kernel) rfl, qa_m4 10 (by decide +kernel) rfl, qa_m4 11 (by decide +kernel) rfl, qa_m1 7 (by decide +kernel) rfl, w_MD_input, ⟨rfl, by decide, by decide, by decide +kernel⟩⟩
theorem k_LW_78 : qa_LV "VotedFramesLaw" "VotedFramesModel" 78 y_MD_charge b_MD_charge 3 (some .int) 2 := ⟨qa_m4 13 (by decide +kernel) rfl, qa_m4 14 (by decide +kernel) rfl, qa_m4 15 (by decide +kernel) rfl, qa_m1 7 (by decide +kernel) rfl, w_MD_charge, ⟨rfl, by decide, by decide, by decide +kernel⟩⟩
theorem k_LW_82 : qa_LV "VotedFramesLaw" "VotedFramesModel" 82 y_MD_word b_MD_word 3 (some .int) 2 := ⟨qa_m4 17 (by decide +kernel) rfl, qa_m4 18 (by decide +kernel) rfl, qa_m4 19 (by decide +kernel) rfl, qa_m1 7 (by decide +kernel) rfl, w_MD_word, ⟨rfl, by decide, by decide, by decide +kernel⟩⟩
theorem k_LW_86 : qa_LV "VotedFramesLaw" "VotedFramesModel" 86 y_MD_members b_MD_members 2 (some .int) 1 := ⟨qa_m4 21 (by decide +kernel) rfl, qa_m4 22 (by decide +kernel) rfl, qa_m4 23 (by decide +kernel) rfl, qa_m1 7 (by decide +kernel) rfl, w_MD_members, ⟨rfl, by decide, by decide, by decide +kernel⟩⟩
theorem k_LW_90 : qa_LV "VotedFramesLaw" "VotedFramesModel" 90 y_MD_bears b_MD_bears 3 (some .int) 1 := ⟨qa_m4 25 (by decide +kernel) rfl, qa_m3 181 (by decide +kernel) rfl, qa_m3 182 (by decide +kernel) rfl, qa_m1 7 (by decide +kernel) rfl, w_MD_bears, ⟨rfl, by decide, by decide, by decide +kernel⟩⟩
theorem k_LW_94 : qa_LV "VotedFramesLaw" "VotedFramesModel" 94 y_MD_accused b_MD_accused 2 (some .int) 1 := ⟨qa_m4 26 (by decide +kernel) rfl, qa_m4 27 (by decide +kernel) rfl, qa_m4 28 (by decide +kernel) rfl, qa_m1 7 (by decide +kernel) rfl, w_MD_accused, ⟨rfl, by decide, by decide, by decide +kernel⟩⟩
theorem k_LW_98 : qa_LV "VotedFramesLaw" "VotedFramesModel" 98 y_MD_spread b_MD_spread 5 (some .int) 0 := ⟨qa_m4 30 (by decide +kernel) rfl, qa_m4 31 (by decide +kernel) rfl, qa_m4 32 (by decide +kernel) rfl, qa_m1 7 (by decide +kernel) rfl, w_MD_spread, ⟨rfl, by decide, by decide, by decide +kernel⟩⟩
theorem k_LW_103 : qa_LV "VotedFramesLaw" "VotedFramesModel" 103 y_MD_alike b_MD_alike 4 (some .boolean) 0 := ⟨qa_m4 34 (by decide +kernel) rfl, qa_m4 35 (by decide +kernel) rfl, qa_m4 36 (by decide +kernel) rfl, qa_m1 7 (by decide +kernel) rfl, w_MD_alike, ⟨rfl, by decide, by decide, by decide +kernel⟩⟩
theorem k_MD_176 : qa_LV "VotedFramesModel" "VotedFramesModel" 176 y_MD_twins b_MD_twins 5 (some .boolean) 2 := ⟨qa_m4 38 (by decide +kernel) rfl, qa_m4 40 (by decide +kernel) rfl, qa_m0 45 (by decide +kernel) rfl, qa_m1 7 (by decide +kernel) rfl, w_MD_twins, ⟨rfl, by decide, by decide, by decide +kernel⟩⟩
theorem k_LW_107 : qa_LV "VotedFramesLaw" "VotedFramesModel" 107 y_MD_solo b_MD_solo 2 (some .int) 1 := ⟨qa_m4 42 (by decide +kernel) rfl, qa_m4 43 (by decide +kernel) rfl, qa_m4 44 (by decide +kernel) rfl, qa_m1 7 (by decide +kernel) rfl, w_MD_solo, ⟨rfl, by decide, by decide, by decide +kernel⟩⟩
theorem k_ND_53 : qa_LN "VotedFrames$Node" 53 y_VF_contains "VotedFrames" b_VF_contains 2 (some .boolean) 2 := ⟨List.mem_of_getElem? (i := 2) rfl, qa_m2 40 (by decide +kernel) rfl, qa_m1 1 (by decide +kernel) rfl, w_VF_contains, ⟨by decide, by decide, by decide +kernel⟩⟩
theorem k_ND_60 : qa_LN "VotedFrames$Node" 60 y_VF_isAtMost "VotedFrames" b_VF_isAtMost 2 (some .boolean) 2 := ⟨List.mem_of_getElem? (i := 3) rfl, qa_m1 222 (by decide +kernel) rfl, qa_m1 1 (by decide +kernel) rfl, w_VF_isAtMost, ⟨by decide, by decide, by decide +kernel⟩⟩
theorem k_RL_57 : qa_LN "VotedFrames$Relay" 57 y_VF_contains "VotedFrames" b_VF_contains 2 (some .boolean) 2 := ⟨List.mem_of_getElem? (i := 4) rfl, qa_m2 40 (by decide +kernel) rfl, qa_m1 1 (by decide +kernel) rfl, w_VF_contains, ⟨by decide, by decide, by decide +kernel⟩⟩
theorem k_RL_86 : qa_LN "VotedFrames$Relay" 86 y_VF_majorityPlace "VotedFrames" b_VF_majorityPlace 6 (some .int) 3 := ⟨List.mem_of_getElem? (i := 5) rfl, qa_m2 101 (by decide +kernel) rfl, qa_m1 1 (by decide +kernel) rfl, w_VF_majorityPlace, ⟨by decide, by decide, by decide +kernel⟩⟩
end
section
theorem d_VF_init_0 : decode b_VF_init 0 = .ok (.aload_n 0, 1) := by decide +kernel
theorem d_VF_init_1 : decode b_VF_init 1 = .ok (.invokespecial 1, 3) := by decide +kernel
theorem d_VF_init_4 : decode b_VF_init 4 = .ok (.aload_n 0, 1) := by decide +kernel
theorem d_VF_init_5 : decode b_VF_init 5 = .ok (.iload_n 1, 1) := by decide +kernel
theorem d_VF_init_6 : decode b_VF_init 6 = .ok (.iconst 4, 1) := by decide +kernel
theorem d_VF_init_7 : decode b_VF_init 7 = .ok (.bipush 7, 2) := by decide +kernel
theorem d_VF_init_9 : decode b_VF_init 9 = .ok (.invokestatic 9, 3) := by decide +kernel
theorem d_VF_init_12 : decode b_VF_init 12 = .ok (.putfield 13, 3) := by decide +kernel
theorem d_VF_init_15 : decode b_VF_init 15 = .ok (.aload_n 0, 1) := by decide +kernel
theorem d_VF_init_16 : decode b_VF_init 16 = .ok (.getfield 13, 3) := by decide +kernel
theorem d_VF_init_19 : decode b_VF_init 19 = .ok (.iconst 1, 1) := by decide +kernel
theorem d_VF_init_20 : decode b_VF_init 20 = .ok (.isub, 1) := by decide +kernel
theorem d_VF_init_21 : decode b_VF_init 21 = .ok (.iconst 3, 1) := by decide +kernel
theorem d_VF_init_22 : decode b_VF_init 22 = .ok (.idiv, 1) := by decide +kernel
theorem d_VF_init_23 : decode b_VF_init 23 = .ok (.istore 4, 2) := by decide +kernel
theorem d_VF_init_25 : decode b_VF_init 25 = .ok (.aload_n 0, 1) := by decide +kernel
theorem d_VF_init_26 : decode b_VF_init 26 = .ok (.iload_n 2, 1) := by decide +kernel
theorem d_VF_init_27 : decode b_VF_init 27 = .ok (.iconst 0, 1) := by decide +kernel
theorem d_VF_init_28 : decode b_VF_init 28 = .ok (.iload 4, 2) := by decide +kernel
theorem d_VF_init_30 : decode b_VF_init 30 = .ok (.invokestatic 17, 3) := by decide +kernel
theorem d_VF_init_33 : decode b_VF_init 33 = .ok (.ifCond .eq 7, 3) := by decide +kernel
theorem d_VF_init_36 : decode b_VF_init 36 = .ok (.iload_n 2, 1) := by decide +kernel
theorem d_VF_init_37 : decode b_VF_init 37 = .ok (.goto 5, 3) := by decide +kernel
theorem d_VF_init_40 : decode b_VF_init 40 = .ok (.iload 4, 2) := by decide +kernel
theorem d_VF_init_42 : decode b_VF_init 42 = .ok (.putfield 21, 3) := by decide +kernel
theorem d_VF_init_45 : decode b_VF_init 45 = .ok (.aload_n 0, 1) := by decide +kernel
theorem d_VF_init_46 : decode b_VF_init 46 = .ok (.iload_n 3, 1) := by decide +kernel
theorem d_VF_init_47 : decode b_VF_init 47 = .ok (.iconst 1, 1) := by decide +kernel
theorem d_VF_init_48 : decode b_VF_init 48 = .ok (.sipush 200, 3) := by decide +kernel
theorem d_VF_init_51 : decode b_VF_init 51 = .ok (.invokestatic 9, 3) := by decide +kernel
theorem d_VF_init_54 : decode b_VF_init 54 = .ok (.putfield 24, 3) := by decide +kernel
theorem d_VF_init_57 : decode b_VF_init 57 = .ok (.aload_n 0, 1) := by decide +kernel
theorem d_VF_init_58 : decode b_VF_init 58 = .ok (.getfield 13, 3) := by decide +kernel
theorem d_VF_init_61 : decode b_VF_init 61 = .ok (.invokestatic 27, 3) := by decide +kernel
theorem d_VF_init_64 : decode b_VF_init 64 = .ok (.astore 5, 2) := by decide +kernel
theorem d_VF_init_66 : decode b_VF_init 66 = .ok (.aload_n 0, 1) := by decide +kernel
theorem d_VF_init_67 : decode b_VF_init 67 = .ok (.aload 5, 2) := by decide +kernel
theorem d_VF_init_69 : decode b_VF_init 69 = .ok (.putfield 31, 3) := by decide +kernel
theorem d_VF_init_72 : decode b_VF_init 72 = .ok (.aload_n 0, 1) := by decide +kernel
theorem d_VF_init_73 : decode b_VF_init 73 = .ok (.new 35, 3) := by decide +kernel
theorem d_VF_init_76 : decode b_VF_init 76 = .ok (.dup, 1) := by decide +kernel
theorem d_VF_init_77 : decode b_VF_init 77 = .ok (.aload 5, 2) := by decide +kernel
theorem d_VF_init_79 : decode b_VF_init 79 = .ok (.aload_n 0, 1) := by decide +kernel
theorem d_VF_init_80 : decode b_VF_init 80 = .ok (.getfield 21, 3) := by decide +kernel
theorem d_VF_init_83 : decode b_VF_init 83 = .ok (.invokespecial 37, 3) := by decide +kernel
theorem d_VF_init_86 : decode b_VF_init 86 = .ok (.putfield 40, 3) := by decide +kernel
theorem d_VF_init_89 : decode b_VF_init 89 = .ok (.aload_n 0, 1) := by decide +kernel
theorem d_VF_init_90 : decode b_VF_init 90 = .ok (.invokestatic 44, 3) := by decide +kernel
theorem d_VF_init_93 : decode b_VF_init 93 = .ok (.putfield 48, 3) := by decide +kernel
theorem d_VF_init_96 : decode b_VF_init 96 = .ok (.aload_n 0, 1) := by decide +kernel
theorem d_VF_init_97 : decode b_VF_init 97 = .ok (.new 52, 3) := by decide +kernel
theorem d_VF_init_100 : decode b_VF_init 100 = .ok (.dup, 1) := by decide +kernel
theorem d_VF_init_101 : decode b_VF_init 101 = .ok (.invokespecial 54, 3) := by decide +kernel
theorem d_VF_init_104 : decode b_VF_init 104 = .ok (.putfield 55, 3) := by decide +kernel
theorem d_VF_init_107 : decode b_VF_init 107 = .ok (.aload_n 0, 1) := by decide +kernel
theorem d_VF_init_108 : decode b_VF_init 108 = .ok (.iconst 4, 1) := by decide +kernel
theorem d_VF_init_109 : decode b_VF_init 109 = .ok (.newarray .int, 2) := by decide +kernel
theorem d_VF_init_111 : decode b_VF_init 111 = .ok (.putfield 59, 3) := by decide +kernel
theorem d_VF_init_114 : decode b_VF_init 114 = .ok (.aload_n 0, 1) := by decide +kernel
theorem d_VF_init_115 : decode b_VF_init 115 = .ok (.aload_n 0, 1) := by decide +kernel
theorem d_VF_init_116 : decode b_VF_init 116 = .ok (.getfield 13, 3) := by decide +kernel
theorem d_VF_init_119 : decode b_VF_init 119 = .ok (.newarray .int, 2) := by decide +kernel
theorem d_VF_init_121 : decode b_VF_init 121 = .ok (.putfield 63, 3) := by decide +kernel
theorem d_VF_init_124 : decode b_VF_init 124 = .ok (.aload_n 0, 1) := by decide +kernel
theorem d_VF_init_125 : decode b_VF_init 125 = .ok (.aload_n 0, 1) := by decide +kernel
theorem d_VF_init_126 : decode b_VF_init 126 = .ok (.getfield 13, 3) := by decide +kernel
theorem d_VF_init_129 : decode b_VF_init 129 = .ok (.newarray .int, 2) := by decide +kernel
theorem d_VF_init_131 : decode b_VF_init 131 = .ok (.putfield 66, 3) := by decide +kernel
theorem d_VF_init_134 : decode b_VF_init 134 = .ok (.aload_n 0, 1) := by decide +kernel
theorem d_VF_init_135 : decode b_VF_init 135 = .ok (.aload_n 0, 1) := by decide +kernel
theorem d_VF_init_136 : decode b_VF_init 136 = .ok (.getfield 13, 3) := by decide +kernel
theorem d_VF_init_139 : decode b_VF_init 139 = .ok (.newarray .int, 2) := by decide +kernel
theorem d_VF_init_141 : decode b_VF_init 141 = .ok (.putfield 69, 3) := by decide +kernel
theorem d_VF_init_144 : decode b_VF_init 144 = .ok (.return_, 1) := by decide +kernel
theorem d_VF_clamp_0 : decode b_VF_clamp 0 = .ok (.iload_n 1, 1) := by decide +kernel
theorem d_VF_clamp_1 : decode b_VF_clamp 1 = .ok (.iload_n 2, 1) := by decide +kernel
theorem d_VF_clamp_2 : decode b_VF_clamp 2 = .ok (.iload_n 0, 1) := by decide +kernel
theorem d_VF_clamp_3 : decode b_VF_clamp 3 = .ok (.invokestatic 155, 3) := by decide +kernel
theorem d_VF_clamp_6 : decode b_VF_clamp 6 = .ok (.invokestatic 161, 3) := by decide +kernel
theorem d_VF_clamp_9 : decode b_VF_clamp 9 = .ok (.ireturn, 1) := by decide +kernel
theorem d_JM_min_0 : decode b_JM_min 0 = .ok (.iload_n 0, 1) := by decide +kernel
theorem d_JM_min_1 : decode b_JM_min 1 = .ok (.iload_n 1, 1) := by decide +kernel
theorem d_JM_min_2 : decode b_JM_min 2 = .ok (.if_icmp .gt 7, 3) := by decide +kernel
theorem d_JM_min_5 : decode b_JM_min 5 = .ok (.iload_n 0, 1) := by decide +kernel
theorem d_JM_min_6 : decode b_JM_min 6 = .ok (.goto 4, 3) := by decide +kernel
theorem d_JM_min_9 : decode b_JM_min 9 = .ok (.iload_n 1, 1) := by decide +kernel
theorem d_JM_min_10 : decode b_JM_min 10 = .ok (.ireturn, 1) := by decide +kernel
theorem d_JM_max_0 : decode b_JM_max 0 = .ok (.iload_n 0, 1) := by decide +kernel
theorem d_JM_max_1 : decode b_JM_max 1 = .ok (.iload_n 1, 1) := by decide +kernel
theorem d_JM_max_2 : decode b_JM_max 2 = .ok (.if_icmp .lt 7, 3) := by decide +kernel
theorem d_JM_max_5 : decode b_JM_max 5 = .ok (.iload_n 0, 1) := by decide +kernel
theorem d_JM_max_6 : decode b_JM_max 6 = .ok (.goto 4, 3) := by decide +kernel
theorem d_JM_max_9 : decode b_JM_max 9 = .ok (.iload_n 1, 1) := by decide +kernel
theorem d_JM_max_10 : decode b_JM_max 10 = .ok (.ireturn, 1) := by decide +kernel
theorem d_VF_within_0 : decode b_VF_within 0 = .ok (.iload_n 1, 1) := by decide +kernel
theorem d_VF_within_1 : decode b_VF_within 1 = .ok (.iload_n 0, 1) := by decide +kernel
theorem d_VF_within_2 : decode b_VF_within 2 = .ok (.if_icmp .gt 12, 3) := by decide +kernel
theorem d_VF_within_5 : decode b_VF_within 5 = .ok (.iload_n 0, 1) := by decide +kernel
theorem d_VF_within_6 : decode b_VF_within 6 = .ok (.iload_n 2, 1) := by decide +kernel
theorem d_VF_within_7 : decode b_VF_within 7 = .ok (.if_icmp .gt 7, 3) := by decide +kernel
theorem d_VF_within_10 : decode b_VF_within 10 = .ok (.iconst 1, 1) := by decide +kernel
theorem d_VF_within_11 : decode b_VF_within 11 = .ok (.goto 4, 3) := by decide +kernel
theorem d_VF_within_14 : decode b_VF_within 14 = .ok (.iconst 0, 1) := by decide +kernel
theorem d_VF_within_15 : decode b_VF_within 15 = .ok (.ireturn, 1) := by decide +kernel
theorem d_VF_madeNodes_0 : decode b_VF_madeNodes 0 = .ok (.iload_n 0, 1) := by decide +kernel
theorem d_VF_madeNodes_1 : decode b_VF_madeNodes 1 = .ok (.anewarray 81, 3) := by decide +kernel
theorem d_VF_madeNodes_4 : decode b_VF_madeNodes 4 = .ok (.astore_n 1, 1) := by decide +kernel
theorem d_VF_madeNodes_5 : decode b_VF_madeNodes 5 = .ok (.iconst 0, 1) := by decide +kernel
theorem d_VF_madeNodes_6 : decode b_VF_madeNodes 6 = .ok (.istore_n 2, 1) := by decide +kernel
theorem d_VF_madeNodes_7 : decode b_VF_madeNodes 7 = .ok (.iload_n 2, 1) := by decide +kernel
theorem d_VF_madeNodes_8 : decode b_VF_madeNodes 8 = .ok (.iload_n 0, 1) := by decide +kernel
theorem d_VF_madeNodes_9 : decode b_VF_madeNodes 9 = .ok (.if_icmp .ge 21, 3) := by decide +kernel
theorem d_VF_madeNodes_12 : decode b_VF_madeNodes 12 = .ok (.aload_n 1, 1) := by decide +kernel
theorem d_VF_madeNodes_13 : decode b_VF_madeNodes 13 = .ok (.iload_n 2, 1) := by decide +kernel
theorem d_VF_madeNodes_14 : decode b_VF_madeNodes 14 = .ok (.new 81, 3) := by decide +kernel
theorem d_VF_madeNodes_17 : decode b_VF_madeNodes 17 = .ok (.dup, 1) := by decide +kernel
theorem d_VF_madeNodes_18 : decode b_VF_madeNodes 18 = .ok (.iload_n 2, 1) := by decide +kernel
theorem d_VF_madeNodes_19 : decode b_VF_madeNodes 19 = .ok (.iload_n 0, 1) := by decide +kernel
theorem d_VF_madeNodes_20 : decode b_VF_madeNodes 20 = .ok (.invokespecial 168, 3) := by decide +kernel
theorem d_VF_madeNodes_23 : decode b_VF_madeNodes 23 = .ok (.aastore, 1) := by decide +kernel
theorem d_VF_madeNodes_24 : decode b_VF_madeNodes 24 = .ok (.iinc 2 1, 3) := by decide +kernel
theorem d_VF_madeNodes_27 : decode b_VF_madeNodes 27 = .ok (.goto (-20), 3) := by decide +kernel
theorem d_VF_madeNodes_30 : decode b_VF_madeNodes 30 = .ok (.aload_n 1, 1) := by decide +kernel
theorem d_VF_madeNodes_31 : decode b_VF_madeNodes 31 = .ok (.areturn, 1) := by decide +kernel
theorem d_VF_madeTasks_0 : decode b_VF_madeTasks 0 = .ok (.iconst 4, 1) := by decide +kernel
theorem d_VF_madeTasks_1 : decode b_VF_madeTasks 1 = .ok (.anewarray 110, 3) := by decide +kernel
theorem d_VF_madeTasks_4 : decode b_VF_madeTasks 4 = .ok (.astore_n 0, 1) := by decide +kernel
theorem d_VF_madeTasks_5 : decode b_VF_madeTasks 5 = .ok (.iconst 0, 1) := by decide +kernel
theorem d_VF_madeTasks_6 : decode b_VF_madeTasks 6 = .ok (.istore_n 1, 1) := by decide +kernel
theorem d_VF_madeTasks_7 : decode b_VF_madeTasks 7 = .ok (.iload_n 1, 1) := by decide +kernel
theorem d_VF_madeTasks_8 : decode b_VF_madeTasks 8 = .ok (.iconst 4, 1) := by decide +kernel
theorem d_VF_madeTasks_9 : decode b_VF_madeTasks 9 = .ok (.if_icmp .ge 19, 3) := by decide +kernel
theorem d_VF_madeTasks_12 : decode b_VF_madeTasks 12 = .ok (.aload_n 0, 1) := by decide +kernel
theorem d_VF_madeTasks_13 : decode b_VF_madeTasks 13 = .ok (.iload_n 1, 1) := by decide +kernel
theorem d_VF_madeTasks_14 : decode b_VF_madeTasks 14 = .ok (.new 110, 3) := by decide +kernel
theorem d_VF_madeTasks_17 : decode b_VF_madeTasks 17 = .ok (.dup, 1) := by decide +kernel
theorem d_VF_madeTasks_18 : decode b_VF_madeTasks 18 = .ok (.invokespecial 171, 3) := by decide +kernel
theorem d_VF_madeTasks_21 : decode b_VF_madeTasks 21 = .ok (.aastore, 1) := by decide +kernel
theorem d_VF_madeTasks_22 : decode b_VF_madeTasks 22 = .ok (.iinc 1 1, 3) := by decide +kernel
theorem d_VF_madeTasks_25 : decode b_VF_madeTasks 25 = .ok (.goto (-18), 3) := by decide +kernel
theorem d_VF_madeTasks_28 : decode b_VF_madeTasks 28 = .ok (.aload_n 0, 1) := by decide +kernel
theorem d_VF_madeTasks_29 : decode b_VF_madeTasks 29 = .ok (.areturn, 1) := by decide +kernel
theorem d_VF_clock_0 : decode b_VF_clock 0 = .ok (.aload_n 0, 1) := by decide +kernel
theorem d_VF_clock_1 : decode b_VF_clock 1 = .ok (.iload_n 1, 1) := by decide +kernel
theorem d_VF_clock_2 : decode b_VF_clock 2 = .ok (.invokevirtual 72, 3) := by decide +kernel
theorem d_VF_clock_5 : decode b_VF_clock 5 = .ok (.ifCond .eq 21, 3) := by decide +kernel
theorem d_VF_clock_8 : decode b_VF_clock 8 = .ok (.iload_n 2, 1) := by decide +kernel
theorem d_VF_clock_9 : decode b_VF_clock 9 = .ok (.sipush 500, 3) := by decide +kernel
theorem d_VF_clock_12 : decode b_VF_clock 12 = .ok (.invokestatic 76, 3) := by decide +kernel
theorem d_VF_clock_15 : decode b_VF_clock 15 = .ok (.ifCond .eq 11, 3) := by decide +kernel
theorem d_VF_clock_18 : decode b_VF_clock 18 = .ok (.iload_n 3, 1) := by decide +kernel
theorem d_VF_clock_19 : decode b_VF_clock 19 = .ok (.iconst 2, 1) := by decide +kernel
theorem d_VF_clock_20 : decode b_VF_clock 20 = .ok (.invokestatic 76, 3) := by decide +kernel
theorem d_VF_clock_23 : decode b_VF_clock 23 = .ok (.ifCond .ne 5, 3) := by decide +kernel
theorem d_VF_clock_26 : decode b_VF_clock 26 = .ok (.iconst 0, 1) := by decide +kernel
theorem d_VF_clock_27 : decode b_VF_clock 27 = .ok (.ireturn, 1) := by decide +kernel
theorem d_VF_clock_28 : decode b_VF_clock 28 = .ok (.aload_n 0, 1) := by decide +kernel
theorem d_VF_clock_29 : decode b_VF_clock 29 = .ok (.getfield 31, 3) := by decide +kernel
theorem d_VF_clock_32 : decode b_VF_clock 32 = .ok (.iload_n 1, 1) := by decide +kernel
theorem d_VF_clock_33 : decode b_VF_clock 33 = .ok (.aaload, 1) := by decide +kernel
theorem d_VF_clock_34 : decode b_VF_clock 34 = .ok (.iload_n 2, 1) := by decide +kernel
theorem d_VF_clock_35 : decode b_VF_clock 35 = .ok (.putfield 80, 3) := by decide +kernel
theorem d_VF_clock_38 : decode b_VF_clock 38 = .ok (.aload_n 0, 1) := by decide +kernel
theorem d_VF_clock_39 : decode b_VF_clock 39 = .ok (.getfield 31, 3) := by decide +kernel
theorem d_VF_clock_42 : decode b_VF_clock 42 = .ok (.iload_n 1, 1) := by decide +kernel
theorem d_VF_clock_43 : decode b_VF_clock 43 = .ok (.aaload, 1) := by decide +kernel
theorem d_VF_clock_44 : decode b_VF_clock 44 = .ok (.iload_n 3, 1) := by decide +kernel
theorem d_VF_clock_45 : decode b_VF_clock 45 = .ok (.putfield 85, 3) := by decide +kernel
theorem d_VF_clock_48 : decode b_VF_clock 48 = .ok (.iconst 1, 1) := by decide +kernel
theorem d_VF_clock_49 : decode b_VF_clock 49 = .ok (.ireturn, 1) := by decide +kernel
theorem d_VF_isNode_0 : decode b_VF_isNode 0 = .ok (.iload_n 1, 1) := by decide +kernel
theorem d_VF_isNode_1 : decode b_VF_isNode 1 = .ok (.iconst 0, 1) := by decide +kernel
theorem d_VF_isNode_2 : decode b_VF_isNode 2 = .ok (.aload_n 0, 1) := by decide +kernel
theorem d_VF_isNode_3 : decode b_VF_isNode 3 = .ok (.getfield 13, 3) := by decide +kernel
theorem d_VF_isNode_6 : decode b_VF_isNode 6 = .ok (.iconst 1, 1) := by decide +kernel
theorem d_VF_isNode_7 : decode b_VF_isNode 7 = .ok (.isub, 1) := by decide +kernel
theorem d_VF_isNode_8 : decode b_VF_isNode 8 = .ok (.invokestatic 17, 3) := by decide +kernel
theorem d_VF_isNode_11 : decode b_VF_isNode 11 = .ok (.ireturn, 1) := by decide +kernel
theorem d_VF_isAtMost_0 : decode b_VF_isAtMost 0 = .ok (.iload_n 0, 1) := by decide +kernel
theorem d_VF_isAtMost_1 : decode b_VF_isAtMost 1 = .ok (.iload_n 1, 1) := by decide +kernel
theorem d_VF_isAtMost_2 : decode b_VF_isAtMost 2 = .ok (.ineg, 1) := by decide +kernel
theorem d_VF_isAtMost_3 : decode b_VF_isAtMost 3 = .ok (.iload_n 1, 1) := by decide +kernel
theorem d_VF_isAtMost_4 : decode b_VF_isAtMost 4 = .ok (.invokestatic 17, 3) := by decide +kernel
theorem d_VF_isAtMost_7 : decode b_VF_isAtMost 7 = .ok (.ireturn, 1) := by decide +kernel
theorem d_VF_link_0 : decode b_VF_link 0 = .ok (.aload_n 0, 1) := by decide +kernel
theorem d_VF_link_1 : decode b_VF_link 1 = .ok (.iload_n 1, 1) := by decide +kernel
theorem d_VF_link_2 : decode b_VF_link 2 = .ok (.invokevirtual 72, 3) := by decide +kernel
theorem d_VF_link_5 : decode b_VF_link 5 = .ok (.ifCond .eq 16, 3) := by decide +kernel
theorem d_VF_link_8 : decode b_VF_link 8 = .ok (.aload_n 0, 1) := by decide +kernel
theorem d_VF_link_9 : decode b_VF_link 9 = .ok (.iload_n 2, 1) := by decide +kernel
theorem d_VF_link_10 : decode b_VF_link 10 = .ok (.invokevirtual 72, 3) := by decide +kernel
theorem d_VF_link_13 : decode b_VF_link 13 = .ok (.ifCond .eq 8, 3) := by decide +kernel
theorem d_VF_link_16 : decode b_VF_link 16 = .ok (.iload_n 1, 1) := by decide +kernel
theorem d_VF_link_17 : decode b_VF_link 17 = .ok (.iload_n 2, 1) := by decide +kernel
theorem d_VF_link_18 : decode b_VF_link 18 = .ok (.if_icmp .ne 5, 3) := by decide +kernel
theorem d_VF_link_21 : decode b_VF_link 21 = .ok (.iconst 0, 1) := by decide +kernel
theorem d_VF_link_22 : decode b_VF_link 22 = .ok (.ireturn, 1) := by decide +kernel
theorem d_VF_link_23 : decode b_VF_link 23 = .ok (.iload_n 3, 1) := by decide +kernel
theorem d_VF_link_24 : decode b_VF_link 24 = .ok (.iconst 0, 1) := by decide +kernel
theorem d_VF_link_25 : decode b_VF_link 25 = .ok (.bipush 20, 2) := by decide +kernel
theorem d_VF_link_27 : decode b_VF_link 27 = .ok (.invokestatic 17, 3) := by decide +kernel
theorem d_VF_link_30 : decode b_VF_link 30 = .ok (.ifCond .eq 12, 3) := by decide +kernel
theorem d_VF_link_33 : decode b_VF_link 33 = .ok (.iload 4, 2) := by decide +kernel
theorem d_VF_link_35 : decode b_VF_link 35 = .ok (.iconst 3, 1) := by decide +kernel
theorem d_VF_link_36 : decode b_VF_link 36 = .ok (.invokestatic 76, 3) := by decide +kernel
theorem d_VF_link_39 : decode b_VF_link 39 = .ok (.ifCond .ne 5, 3) := by decide +kernel
theorem d_VF_link_42 : decode b_VF_link 42 = .ok (.iconst 0, 1) := by decide +kernel
theorem d_VF_link_43 : decode b_VF_link 43 = .ok (.ireturn, 1) := by decide +kernel
theorem d_VF_link_44 : decode b_VF_link 44 = .ok (.aload_n 0, 1) := by decide +kernel
theorem d_VF_link_45 : decode b_VF_link 45 = .ok (.getfield 31, 3) := by decide +kernel
theorem d_VF_link_48 : decode b_VF_link 48 = .ok (.iload_n 2, 1) := by decide +kernel
theorem d_VF_link_49 : decode b_VF_link 49 = .ok (.aaload, 1) := by decide +kernel
theorem d_VF_link_50 : decode b_VF_link 50 = .ok (.getfield 88, 3) := by decide +kernel
theorem d_VF_link_53 : decode b_VF_link 53 = .ok (.iload_n 1, 1) := by decide +kernel
theorem d_VF_link_54 : decode b_VF_link 54 = .ok (.iload_n 3, 1) := by decide +kernel
theorem d_VF_link_55 : decode b_VF_link 55 = .ok (.iastore, 1) := by decide +kernel
theorem d_VF_link_56 : decode b_VF_link 56 = .ok (.aload_n 0, 1) := by decide +kernel
theorem d_VF_link_57 : decode b_VF_link 57 = .ok (.getfield 31, 3) := by decide +kernel
theorem d_VF_link_60 : decode b_VF_link 60 = .ok (.iload_n 2, 1) := by decide +kernel
theorem d_VF_link_61 : decode b_VF_link 61 = .ok (.aaload, 1) := by decide +kernel
theorem d_VF_link_62 : decode b_VF_link 62 = .ok (.getfield 91, 3) := by decide +kernel
theorem d_VF_link_65 : decode b_VF_link 65 = .ok (.iload_n 1, 1) := by decide +kernel
theorem d_VF_link_66 : decode b_VF_link 66 = .ok (.iload 4, 2) := by decide +kernel
theorem d_VF_link_68 : decode b_VF_link 68 = .ok (.iastore, 1) := by decide +kernel
theorem d_VF_link_69 : decode b_VF_link 69 = .ok (.iconst 1, 1) := by decide +kernel
theorem d_VF_link_70 : decode b_VF_link 70 = .ok (.ireturn, 1) := by decide +kernel
theorem d_VF_sensor_0 : decode b_VF_sensor 0 = .ok (.aload_n 0, 1) := by decide +kernel
theorem d_VF_sensor_1 : decode b_VF_sensor 1 = .ok (.iload_n 1, 1) := by decide +kernel
theorem d_VF_sensor_2 : decode b_VF_sensor 2 = .ok (.invokevirtual 72, 3) := by decide +kernel
theorem d_VF_sensor_5 : decode b_VF_sensor 5 = .ok (.ifCond .ne 5, 3) := by decide +kernel
theorem d_VF_sensor_8 : decode b_VF_sensor 8 = .ok (.iconst 0, 1) := by decide +kernel
theorem d_VF_sensor_9 : decode b_VF_sensor 9 = .ok (.ireturn, 1) := by decide +kernel
theorem d_VF_sensor_10 : decode b_VF_sensor 10 = .ok (.aload_n 0, 1) := by decide +kernel
theorem d_VF_sensor_11 : decode b_VF_sensor 11 = .ok (.getfield 31, 3) := by decide +kernel
theorem d_VF_sensor_14 : decode b_VF_sensor 14 = .ok (.iload_n 1, 1) := by decide +kernel
theorem d_VF_sensor_15 : decode b_VF_sensor 15 = .ok (.aaload, 1) := by decide +kernel
theorem d_VF_sensor_16 : decode b_VF_sensor 16 = .ok (.iload_n 2, 1) := by decide +kernel
theorem d_VF_sensor_17 : decode b_VF_sensor 17 = .ok (.putfield 94, 3) := by decide +kernel
theorem d_VF_sensor_20 : decode b_VF_sensor 20 = .ok (.iconst 1, 1) := by decide +kernel
theorem d_VF_sensor_21 : decode b_VF_sensor 21 = .ok (.ireturn, 1) := by decide +kernel
theorem d_VF_fault_0 : decode b_VF_fault 0 = .ok (.aload_n 0, 1) := by decide +kernel
theorem d_VF_fault_1 : decode b_VF_fault 1 = .ok (.iload_n 1, 1) := by decide +kernel
theorem d_VF_fault_2 : decode b_VF_fault 2 = .ok (.invokevirtual 72, 3) := by decide +kernel
theorem d_VF_fault_5 : decode b_VF_fault 5 = .ok (.ifCond .eq 22, 3) := by decide +kernel
theorem d_VF_fault_8 : decode b_VF_fault 8 = .ok (.iload_n 2, 1) := by decide +kernel
theorem d_VF_fault_9 : decode b_VF_fault 9 = .ok (.iconst 0, 1) := by decide +kernel
theorem d_VF_fault_10 : decode b_VF_fault 10 = .ok (.iconst 5, 1) := by decide +kernel
theorem d_VF_fault_11 : decode b_VF_fault 11 = .ok (.invokestatic 17, 3) := by decide +kernel
theorem d_VF_fault_14 : decode b_VF_fault 14 = .ok (.ifCond .eq 13, 3) := by decide +kernel
theorem d_VF_fault_17 : decode b_VF_fault 17 = .ok (.iload_n 3, 1) := by decide +kernel
theorem d_VF_fault_18 : decode b_VF_fault 18 = .ok (.sipush 5000, 3) := by decide +kernel
theorem d_VF_fault_21 : decode b_VF_fault 21 = .ok (.invokestatic 76, 3) := by decide +kernel
theorem d_VF_fault_24 : decode b_VF_fault 24 = .ok (.ifCond .ne 5, 3) := by decide +kernel
theorem d_VF_fault_27 : decode b_VF_fault 27 = .ok (.iconst 0, 1) := by decide +kernel
theorem d_VF_fault_28 : decode b_VF_fault 28 = .ok (.ireturn, 1) := by decide +kernel
theorem d_VF_fault_29 : decode b_VF_fault 29 = .ok (.aload_n 0, 1) := by decide +kernel
theorem d_VF_fault_30 : decode b_VF_fault 30 = .ok (.getfield 31, 3) := by decide +kernel
theorem d_VF_fault_33 : decode b_VF_fault 33 = .ok (.iload_n 1, 1) := by decide +kernel
theorem d_VF_fault_34 : decode b_VF_fault 34 = .ok (.aaload, 1) := by decide +kernel
theorem d_VF_fault_35 : decode b_VF_fault 35 = .ok (.iload_n 2, 1) := by decide +kernel
theorem d_VF_fault_36 : decode b_VF_fault 36 = .ok (.putfield 97, 3) := by decide +kernel
theorem d_VF_fault_39 : decode b_VF_fault 39 = .ok (.aload_n 0, 1) := by decide +kernel
theorem d_VF_fault_40 : decode b_VF_fault 40 = .ok (.getfield 31, 3) := by decide +kernel
theorem d_VF_fault_43 : decode b_VF_fault 43 = .ok (.iload_n 1, 1) := by decide +kernel
theorem d_VF_fault_44 : decode b_VF_fault 44 = .ok (.aaload, 1) := by decide +kernel
theorem d_VF_fault_45 : decode b_VF_fault 45 = .ok (.iload_n 3, 1) := by decide +kernel
theorem d_VF_fault_46 : decode b_VF_fault 46 = .ok (.putfield 100, 3) := by decide +kernel
theorem d_VF_fault_49 : decode b_VF_fault 49 = .ok (.iconst 1, 1) := by decide +kernel
theorem d_VF_fault_50 : decode b_VF_fault 50 = .ok (.ireturn, 1) := by decide +kernel
theorem d_VF_code_0 : decode b_VF_code 0 = .ok (.iload_n 1, 1) := by decide +kernel
theorem d_VF_code_1 : decode b_VF_code 1 = .ok (.invokestatic 103, 3) := by decide +kernel
theorem d_VF_code_4 : decode b_VF_code 4 = .ok (.ifCond .eq 22, 3) := by decide +kernel
theorem d_VF_code_7 : decode b_VF_code 7 = .ok (.iload_n 2, 1) := by decide +kernel
theorem d_VF_code_8 : decode b_VF_code 8 = .ok (.iconst 0, 1) := by decide +kernel
theorem d_VF_code_9 : decode b_VF_code 9 = .ok (.bipush 9, 2) := by decide +kernel
theorem d_VF_code_11 : decode b_VF_code 11 = .ok (.invokestatic 17, 3) := by decide +kernel
theorem d_VF_code_14 : decode b_VF_code 14 = .ok (.ifCond .eq 12, 3) := by decide +kernel
theorem d_VF_code_17 : decode b_VF_code 17 = .ok (.aload_n 0, 1) := by decide +kernel
theorem d_VF_code_18 : decode b_VF_code 18 = .ok (.iload_n 2, 1) := by decide +kernel
theorem d_VF_code_19 : decode b_VF_code 19 = .ok (.iload_n 3, 1) := by decide +kernel
theorem d_VF_code_20 : decode b_VF_code 20 = .ok (.invokevirtual 106, 3) := by decide +kernel
theorem d_VF_code_23 : decode b_VF_code 23 = .ok (.ifCond .ne 5, 3) := by decide +kernel
theorem d_VF_code_26 : decode b_VF_code 26 = .ok (.iconst 0, 1) := by decide +kernel
theorem d_VF_code_27 : decode b_VF_code 27 = .ok (.ireturn, 1) := by decide +kernel
theorem d_VF_code_28 : decode b_VF_code 28 = .ok (.aload_n 0, 1) := by decide +kernel
theorem d_VF_code_29 : decode b_VF_code 29 = .ok (.getfield 48, 3) := by decide +kernel
theorem d_VF_code_32 : decode b_VF_code 32 = .ok (.iload_n 1, 1) := by decide +kernel
theorem d_VF_code_33 : decode b_VF_code 33 = .ok (.aaload, 1) := by decide +kernel
theorem d_VF_code_34 : decode b_VF_code 34 = .ok (.iload_n 2, 1) := by decide +kernel
theorem d_VF_code_35 : decode b_VF_code 35 = .ok (.iload_n 3, 1) := by decide +kernel
theorem d_VF_code_36 : decode b_VF_code 36 = .ok (.invokevirtual 109, 3) := by decide +kernel
theorem d_VF_code_39 : decode b_VF_code 39 = .ok (.ireturn, 1) := by decide +kernel
theorem d_VF_isTask_0 : decode b_VF_isTask 0 = .ok (.iload_n 0, 1) := by decide +kernel
theorem d_VF_isTask_1 : decode b_VF_isTask 1 = .ok (.iconst 0, 1) := by decide +kernel
theorem d_VF_isTask_2 : decode b_VF_isTask 2 = .ok (.iconst 3, 1) := by decide +kernel
theorem d_VF_isTask_3 : decode b_VF_isTask 3 = .ok (.invokestatic 17, 3) := by decide +kernel
theorem d_VF_isTask_6 : decode b_VF_isTask 6 = .ok (.ireturn, 1) := by decide +kernel
theorem d_VF_fitsInstruction_0 : decode b_VF_fitsInstruction 0 = .ok (.iload_n 1, 1) := by decide +kernel
theorem d_VF_fitsInstruction_1 : decode b_VF_fitsInstruction 1 = .ok (.lookupswitch 56 #[(1, 35), (2, 41), (8, 48)], 35) := by decide +kernel
theorem d_VF_fitsInstruction_36 : decode b_VF_fitsInstruction 36 = .ok (.aload_n 0, 1) := by decide +kernel
theorem d_VF_fitsInstruction_37 : decode b_VF_fitsInstruction 37 = .ok (.iload_n 2, 1) := by decide +kernel
theorem d_VF_fitsInstruction_38 : decode b_VF_fitsInstruction 38 = .ok (.invokevirtual 72, 3) := by decide +kernel
theorem d_VF_fitsInstruction_41 : decode b_VF_fitsInstruction 41 = .ok (.ireturn, 1) := by decide +kernel
theorem d_VF_fitsInstruction_42 : decode b_VF_fitsInstruction 42 = .ok (.iload_n 2, 1) := by decide +kernel
theorem d_VF_fitsInstruction_43 : decode b_VF_fitsInstruction 43 = .ok (.iconst 0, 1) := by decide +kernel
theorem d_VF_fitsInstruction_44 : decode b_VF_fitsInstruction 44 = .ok (.iconst 3, 1) := by decide +kernel
theorem d_VF_fitsInstruction_45 : decode b_VF_fitsInstruction 45 = .ok (.invokestatic 17, 3) := by decide +kernel
theorem d_VF_fitsInstruction_48 : decode b_VF_fitsInstruction 48 = .ok (.ireturn, 1) := by decide +kernel
theorem d_VF_fitsInstruction_49 : decode b_VF_fitsInstruction 49 = .ok (.iload_n 2, 1) := by decide +kernel
theorem d_VF_fitsInstruction_50 : decode b_VF_fitsInstruction 50 = .ok (.iconst 0, 1) := by decide +kernel
theorem d_VF_fitsInstruction_51 : decode b_VF_fitsInstruction 51 = .ok (.bipush 11, 2) := by decide +kernel
theorem d_VF_fitsInstruction_53 : decode b_VF_fitsInstruction 53 = .ok (.invokestatic 17, 3) := by decide +kernel
theorem d_VF_fitsInstruction_56 : decode b_VF_fitsInstruction 56 = .ok (.ireturn, 1) := by decide +kernel
theorem d_VF_fitsInstruction_57 : decode b_VF_fitsInstruction 57 = .ok (.iconst 1, 1) := by decide +kernel
theorem d_VF_fitsInstruction_58 : decode b_VF_fitsInstruction 58 = .ok (.ireturn, 1) := by decide +kernel
theorem d_VF_clear_0 : decode b_VF_clear 0 = .ok (.iload_n 1, 1) := by decide +kernel
theorem d_VF_clear_1 : decode b_VF_clear 1 = .ok (.invokestatic 103, 3) := by decide +kernel
theorem d_VF_clear_4 : decode b_VF_clear 4 = .ok (.ifCond .eq 15, 3) := by decide +kernel
theorem d_VF_clear_7 : decode b_VF_clear 7 = .ok (.aload_n 0, 1) := by decide +kernel
theorem d_VF_clear_8 : decode b_VF_clear 8 = .ok (.getfield 48, 3) := by decide +kernel
theorem d_VF_clear_11 : decode b_VF_clear 11 = .ok (.iload_n 1, 1) := by decide +kernel
theorem d_VF_clear_12 : decode b_VF_clear 12 = .ok (.aaload, 1) := by decide +kernel
theorem d_VF_clear_13 : decode b_VF_clear 13 = .ok (.invokevirtual 114, 3) := by decide +kernel
theorem d_VF_clear_16 : decode b_VF_clear 16 = .ok (.goto 4, 3) := by decide +kernel
theorem d_VF_clear_19 : decode b_VF_clear 19 = .ok (.iconst (-1), 1) := by decide +kernel
theorem d_VF_clear_20 : decode b_VF_clear 20 = .ok (.ireturn, 1) := by decide +kernel
theorem d_VF_due_0 : decode b_VF_due 0 = .ok (.iload_n 1, 1) := by decide +kernel
theorem d_VF_due_1 : decode b_VF_due 1 = .ok (.invokestatic 103, 3) := by decide +kernel
theorem d_VF_due_4 : decode b_VF_due 4 = .ok (.ifCond .eq 24, 3) := by decide +kernel
theorem d_VF_due_7 : decode b_VF_due 7 = .ok (.iload_n 2, 1) := by decide +kernel
theorem d_VF_due_8 : decode b_VF_due 8 = .ok (.iconst 1, 1) := by decide +kernel
theorem d_VF_due_9 : decode b_VF_due 9 = .ok (.bipush 8, 2) := by decide +kernel
theorem d_VF_due_11 : decode b_VF_due 11 = .ok (.invokestatic 17, 3) := by decide +kernel
theorem d_VF_due_14 : decode b_VF_due 14 = .ok (.ifCond .eq 14, 3) := by decide +kernel
theorem d_VF_due_17 : decode b_VF_due 17 = .ok (.iload_n 3, 1) := by decide +kernel
theorem d_VF_due_18 : decode b_VF_due 18 = .ok (.iconst 0, 1) := by decide +kernel
theorem d_VF_due_19 : decode b_VF_due 19 = .ok (.iload_n 2, 1) := by decide +kernel
theorem d_VF_due_20 : decode b_VF_due 20 = .ok (.iconst 1, 1) := by decide +kernel
theorem d_VF_due_21 : decode b_VF_due 21 = .ok (.isub, 1) := by decide +kernel
theorem d_VF_due_22 : decode b_VF_due 22 = .ok (.invokestatic 17, 3) := by decide +kernel
theorem d_VF_due_25 : decode b_VF_due 25 = .ok (.ifCond .ne 5, 3) := by decide +kernel
theorem d_VF_due_28 : decode b_VF_due 28 = .ok (.iconst 0, 1) := by decide +kernel
theorem d_VF_due_29 : decode b_VF_due 29 = .ok (.ireturn, 1) := by decide +kernel
theorem d_VF_due_30 : decode b_VF_due 30 = .ok (.aload_n 0, 1) := by decide +kernel
theorem d_VF_due_31 : decode b_VF_due 31 = .ok (.getfield 48, 3) := by decide +kernel
theorem d_VF_due_34 : decode b_VF_due 34 = .ok (.iload_n 1, 1) := by decide +kernel
theorem d_VF_due_35 : decode b_VF_due 35 = .ok (.aaload, 1) := by decide +kernel
theorem d_VF_due_36 : decode b_VF_due 36 = .ok (.iload_n 2, 1) := by decide +kernel
theorem d_VF_due_37 : decode b_VF_due 37 = .ok (.putfield 118, 3) := by decide +kernel
theorem d_VF_due_40 : decode b_VF_due 40 = .ok (.aload_n 0, 1) := by decide +kernel
theorem d_VF_due_41 : decode b_VF_due 41 = .ok (.getfield 48, 3) := by decide +kernel
theorem d_VF_due_44 : decode b_VF_due 44 = .ok (.iload_n 1, 1) := by decide +kernel
theorem d_VF_due_45 : decode b_VF_due 45 = .ok (.aaload, 1) := by decide +kernel
theorem d_VF_due_46 : decode b_VF_due 46 = .ok (.iload_n 3, 1) := by decide +kernel
theorem d_VF_due_47 : decode b_VF_due 47 = .ok (.putfield 121, 3) := by decide +kernel
theorem d_VF_due_50 : decode b_VF_due 50 = .ok (.iconst 1, 1) := by decide +kernel
theorem d_VF_due_51 : decode b_VF_due 51 = .ok (.ireturn, 1) := by decide +kernel
theorem d_VF_run_0 : decode b_VF_run 0 = .ok (.iload_n 1, 1) := by decide +kernel
theorem d_VF_run_1 : decode b_VF_run 1 = .ok (.iconst 1, 1) := by decide +kernel
theorem d_VF_run_2 : decode b_VF_run 2 = .ok (.iconst 4, 1) := by decide +kernel
theorem d_VF_run_3 : decode b_VF_run 3 = .ok (.invokestatic 17, 3) := by decide +kernel
theorem d_VF_run_6 : decode b_VF_run 6 = .ok (.ifCond .ne 5, 3) := by decide +kernel
theorem d_VF_run_9 : decode b_VF_run 9 = .ok (.iconst (-1), 1) := by decide +kernel
theorem d_VF_run_10 : decode b_VF_run 10 = .ok (.ireturn, 1) := by decide +kernel
theorem d_VF_run_11 : decode b_VF_run 11 = .ok (.iconst 0, 1) := by decide +kernel
theorem d_VF_run_12 : decode b_VF_run 12 = .ok (.istore_n 2, 1) := by decide +kernel
theorem d_VF_run_13 : decode b_VF_run 13 = .ok (.iconst 0, 1) := by decide +kernel
theorem d_VF_run_14 : decode b_VF_run 14 = .ok (.istore_n 3, 1) := by decide +kernel
theorem d_VF_run_15 : decode b_VF_run 15 = .ok (.iload_n 3, 1) := by decide +kernel
theorem d_VF_run_16 : decode b_VF_run 16 = .ok (.iload_n 1, 1) := by decide +kernel
theorem d_VF_run_17 : decode b_VF_run 17 = .ok (.if_icmp .ge 16, 3) := by decide +kernel
theorem d_VF_run_20 : decode b_VF_run 20 = .ok (.iload_n 2, 1) := by decide +kernel
theorem d_VF_run_21 : decode b_VF_run 21 = .ok (.aload_n 0, 1) := by decide +kernel
theorem d_VF_run_22 : decode b_VF_run 22 = .ok (.invokevirtual 124, 3) := by decide +kernel
theorem d_VF_run_25 : decode b_VF_run 25 = .ok (.iadd, 1) := by decide +kernel
theorem d_VF_run_26 : decode b_VF_run 26 = .ok (.istore_n 2, 1) := by decide +kernel
theorem d_VF_run_27 : decode b_VF_run 27 = .ok (.iinc 3 1, 3) := by decide +kernel
theorem d_VF_run_30 : decode b_VF_run 30 = .ok (.goto (-15), 3) := by decide +kernel
theorem d_VF_run_33 : decode b_VF_run 33 = .ok (.iload_n 2, 1) := by decide +kernel
theorem d_VF_run_34 : decode b_VF_run 34 = .ok (.ireturn, 1) := by decide +kernel
theorem d_VF_runFrame_0 : decode b_VF_runFrame 0 = .ok (.aload_n 0, 1) := by decide +kernel
theorem d_VF_runFrame_1 : decode b_VF_runFrame 1 = .ok (.invokevirtual 172, 3) := by decide +kernel
theorem d_VF_runFrame_4 : decode b_VF_runFrame 4 = .ok (.aload_n 0, 1) := by decide +kernel
theorem d_VF_runFrame_5 : decode b_VF_runFrame 5 = .ok (.getfield 40, 3) := by decide +kernel
theorem d_VF_runFrame_8 : decode b_VF_runFrame 8 = .ok (.aload_n 0, 1) := by decide +kernel
theorem d_VF_runFrame_9 : decode b_VF_runFrame 9 = .ok (.getfield 127, 3) := by decide +kernel
theorem d_VF_runFrame_12 : decode b_VF_runFrame 12 = .ok (.invokevirtual 175, 3) := by decide +kernel
theorem d_VF_runFrame_15 : decode b_VF_runFrame 15 = .ok (.aload_n 0, 1) := by decide +kernel
theorem d_VF_runFrame_16 : decode b_VF_runFrame 16 = .ok (.invokevirtual 179, 3) := by decide +kernel
theorem d_VF_runFrame_19 : decode b_VF_runFrame 19 = .ok (.aload_n 0, 1) := by decide +kernel
theorem d_VF_runFrame_20 : decode b_VF_runFrame 20 = .ok (.invokevirtual 182, 3) := by decide +kernel
theorem d_VF_runFrame_23 : decode b_VF_runFrame 23 = .ok (.aload_n 0, 1) := by decide +kernel
theorem d_VF_runFrame_24 : decode b_VF_runFrame 24 = .ok (.invokevirtual 185, 3) := by decide +kernel
theorem d_VF_runFrame_27 : decode b_VF_runFrame 27 = .ok (.aload_n 0, 1) := by decide +kernel
theorem d_VF_runFrame_28 : decode b_VF_runFrame 28 = .ok (.invokevirtual 188, 3) := by decide +kernel
theorem d_VF_runFrame_31 : decode b_VF_runFrame 31 = .ok (.istore_n 1, 1) := by decide +kernel
theorem d_VF_runFrame_32 : decode b_VF_runFrame 32 = .ok (.aload_n 0, 1) := by decide +kernel
theorem d_VF_runFrame_33 : decode b_VF_runFrame 33 = .ok (.invokevirtual 191, 3) := by decide +kernel
theorem d_VF_runFrame_36 : decode b_VF_runFrame 36 = .ok (.aload_n 0, 1) := by decide +kernel
theorem d_VF_runFrame_37 : decode b_VF_runFrame 37 = .ok (.dup, 1) := by decide +kernel
theorem d_VF_runFrame_38 : decode b_VF_runFrame 38 = .ok (.getfield 127, 3) := by decide +kernel
theorem d_VF_runFrame_41 : decode b_VF_runFrame 41 = .ok (.iconst 1, 1) := by decide +kernel
theorem d_VF_runFrame_42 : decode b_VF_runFrame 42 = .ok (.iadd, 1) := by decide +kernel
theorem d_VF_runFrame_43 : decode b_VF_runFrame 43 = .ok (.putfield 127, 3) := by decide +kernel
theorem d_VF_runFrame_46 : decode b_VF_runFrame 46 = .ok (.iload_n 1, 1) := by decide +kernel
theorem d_VF_runFrame_47 : decode b_VF_runFrame 47 = .ok (.ireturn, 1) := by decide +kernel
theorem d_VF_openLines_0 : decode b_VF_openLines 0 = .ok (.iconst 0, 1) := by decide +kernel
theorem d_VF_openLines_1 : decode b_VF_openLines 1 = .ok (.istore_n 1, 1) := by decide +kernel
theorem d_VF_openLines_2 : decode b_VF_openLines 2 = .ok (.iload_n 1, 1) := by decide +kernel
theorem d_VF_openLines_3 : decode b_VF_openLines 3 = .ok (.aload_n 0, 1) := by decide +kernel
theorem d_VF_openLines_4 : decode b_VF_openLines 4 = .ok (.getfield 13, 3) := by decide +kernel
theorem d_VF_openLines_7 : decode b_VF_openLines 7 = .ok (.if_icmp .ge 73, 3) := by decide +kernel
theorem d_VF_openLines_10 : decode b_VF_openLines 10 = .ok (.iconst 0, 1) := by decide +kernel
theorem d_VF_openLines_11 : decode b_VF_openLines 11 = .ok (.istore_n 2, 1) := by decide +kernel
theorem d_VF_openLines_12 : decode b_VF_openLines 12 = .ok (.iconst 0, 1) := by decide +kernel
theorem d_VF_openLines_13 : decode b_VF_openLines 13 = .ok (.istore_n 3, 1) := by decide +kernel
theorem d_VF_openLines_14 : decode b_VF_openLines 14 = .ok (.iload_n 3, 1) := by decide +kernel
theorem d_VF_openLines_15 : decode b_VF_openLines 15 = .ok (.aload_n 0, 1) := by decide +kernel
theorem d_VF_openLines_16 : decode b_VF_openLines 16 = .ok (.getfield 13, 3) := by decide +kernel
theorem d_VF_openLines_19 : decode b_VF_openLines 19 = .ok (.if_icmp .ge 45, 3) := by decide +kernel
theorem d_VF_openLines_22 : decode b_VF_openLines 22 = .ok (.iload_n 3, 1) := by decide +kernel
theorem d_VF_openLines_23 : decode b_VF_openLines 23 = .ok (.iload_n 1, 1) := by decide +kernel
theorem d_VF_openLines_24 : decode b_VF_openLines 24 = .ok (.if_icmp .eq 34, 3) := by decide +kernel
theorem d_VF_openLines_27 : decode b_VF_openLines 27 = .ok (.aload_n 0, 1) := by decide +kernel
theorem d_VF_openLines_28 : decode b_VF_openLines 28 = .ok (.getfield 31, 3) := by decide +kernel
theorem d_VF_openLines_31 : decode b_VF_openLines 31 = .ok (.iload_n 1, 1) := by decide +kernel
theorem d_VF_openLines_32 : decode b_VF_openLines 32 = .ok (.aaload, 1) := by decide +kernel
theorem d_VF_openLines_33 : decode b_VF_openLines 33 = .ok (.aload_n 0, 1) := by decide +kernel
theorem d_VF_openLines_34 : decode b_VF_openLines 34 = .ok (.getfield 31, 3) := by decide +kernel
theorem d_VF_openLines_37 : decode b_VF_openLines 37 = .ok (.iload_n 3, 1) := by decide +kernel
theorem d_VF_openLines_38 : decode b_VF_openLines 38 = .ok (.aaload, 1) := by decide +kernel
theorem d_VF_openLines_39 : decode b_VF_openLines 39 = .ok (.aload_n 0, 1) := by decide +kernel
theorem d_VF_openLines_40 : decode b_VF_openLines 40 = .ok (.getfield 24, 3) := by decide +kernel
theorem d_VF_openLines_43 : decode b_VF_openLines 43 = .ok (.bipush 20, 2) := by decide +kernel
theorem d_VF_openLines_45 : decode b_VF_openLines 45 = .ok (.iadd, 1) := by decide +kernel
theorem d_VF_openLines_46 : decode b_VF_openLines 46 = .ok (.invokevirtual 194, 3) := by decide +kernel
theorem d_VF_openLines_49 : decode b_VF_openLines 49 = .ok (.ifCond .eq 9, 3) := by decide +kernel
theorem d_VF_openLines_52 : decode b_VF_openLines 52 = .ok (.iload_n 2, 1) := by decide +kernel
theorem d_VF_openLines_53 : decode b_VF_openLines 53 = .ok (.iconst 1, 1) := by decide +kernel
theorem d_VF_openLines_54 : decode b_VF_openLines 54 = .ok (.iload_n 3, 1) := by decide +kernel
theorem d_VF_openLines_55 : decode b_VF_openLines 55 = .ok (.ishl, 1) := by decide +kernel
theorem d_VF_openLines_56 : decode b_VF_openLines 56 = .ok (.ior, 1) := by decide +kernel
theorem d_VF_openLines_57 : decode b_VF_openLines 57 = .ok (.istore_n 2, 1) := by decide +kernel
theorem d_VF_openLines_58 : decode b_VF_openLines 58 = .ok (.iinc 3 1, 3) := by decide +kernel
theorem d_VF_openLines_61 : decode b_VF_openLines 61 = .ok (.goto (-47), 3) := by decide +kernel
theorem d_VF_openLines_64 : decode b_VF_openLines 64 = .ok (.aload_n 0, 1) := by decide +kernel
theorem d_VF_openLines_65 : decode b_VF_openLines 65 = .ok (.getfield 31, 3) := by decide +kernel
theorem d_VF_openLines_68 : decode b_VF_openLines 68 = .ok (.iload_n 1, 1) := by decide +kernel
theorem d_VF_openLines_69 : decode b_VF_openLines 69 = .ok (.aaload, 1) := by decide +kernel
theorem d_VF_openLines_70 : decode b_VF_openLines 70 = .ok (.iload_n 2, 1) := by decide +kernel
theorem d_VF_openLines_71 : decode b_VF_openLines 71 = .ok (.putfield 198, 3) := by decide +kernel
theorem d_VF_openLines_74 : decode b_VF_openLines 74 = .ok (.iinc 1 1, 3) := by decide +kernel
theorem d_VF_openLines_77 : decode b_VF_openLines 77 = .ok (.goto (-75), 3) := by decide +kernel
theorem d_VF_openLines_80 : decode b_VF_openLines 80 = .ok (.return_, 1) := by decide +kernel
theorem d_VF_contains_0 : decode b_VF_contains 0 = .ok (.iload_n 0, 1) := by decide +kernel
theorem d_VF_contains_1 : decode b_VF_contains 1 = .ok (.iload_n 1, 1) := by decide +kernel
theorem d_VF_contains_2 : decode b_VF_contains 2 = .ok (.ishr, 1) := by decide +kernel
theorem d_VF_contains_3 : decode b_VF_contains 3 = .ok (.iconst 1, 1) := by decide +kernel
theorem d_VF_contains_4 : decode b_VF_contains 4 = .ok (.iand, 1) := by decide +kernel
theorem d_VF_contains_5 : decode b_VF_contains 5 = .ok (.ifCond .eq 7, 3) := by decide +kernel
theorem d_VF_contains_8 : decode b_VF_contains 8 = .ok (.iconst 1, 1) := by decide +kernel
theorem d_VF_contains_9 : decode b_VF_contains 9 = .ok (.goto 4, 3) := by decide +kernel
theorem d_VF_contains_12 : decode b_VF_contains 12 = .ok (.iconst 0, 1) := by decide +kernel
theorem d_VF_contains_13 : decode b_VF_contains 13 = .ok (.ireturn, 1) := by decide +kernel
theorem d_JI_bitCount_0 : decode b_JI_bitCount 0 = .ok (.iload_n 0, 1) := by decide +kernel
theorem d_JI_bitCount_1 : decode b_JI_bitCount 1 = .ok (.iload_n 0, 1) := by decide +kernel
theorem d_JI_bitCount_2 : decode b_JI_bitCount 2 = .ok (.iconst 1, 1) := by decide +kernel
theorem d_JI_bitCount_3 : decode b_JI_bitCount 3 = .ok (.iushr, 1) := by decide +kernel
theorem d_JI_bitCount_4 : decode b_JI_bitCount 4 = .ok (.ldc_w 265, 3) := by decide +kernel
theorem d_JI_bitCount_7 : decode b_JI_bitCount 7 = .ok (.iand, 1) := by decide +kernel
theorem d_JI_bitCount_8 : decode b_JI_bitCount 8 = .ok (.isub, 1) := by decide +kernel
theorem d_JI_bitCount_9 : decode b_JI_bitCount 9 = .ok (.istore_n 0, 1) := by decide +kernel
theorem d_JI_bitCount_10 : decode b_JI_bitCount 10 = .ok (.iload_n 0, 1) := by decide +kernel
theorem d_JI_bitCount_11 : decode b_JI_bitCount 11 = .ok (.ldc_w 266, 3) := by decide +kernel
theorem d_JI_bitCount_14 : decode b_JI_bitCount 14 = .ok (.iand, 1) := by decide +kernel
theorem d_JI_bitCount_15 : decode b_JI_bitCount 15 = .ok (.iload_n 0, 1) := by decide +kernel
theorem d_JI_bitCount_16 : decode b_JI_bitCount 16 = .ok (.iconst 2, 1) := by decide +kernel
theorem d_JI_bitCount_17 : decode b_JI_bitCount 17 = .ok (.iushr, 1) := by decide +kernel
theorem d_JI_bitCount_18 : decode b_JI_bitCount 18 = .ok (.ldc_w 266, 3) := by decide +kernel
theorem d_JI_bitCount_21 : decode b_JI_bitCount 21 = .ok (.iand, 1) := by decide +kernel
theorem d_JI_bitCount_22 : decode b_JI_bitCount 22 = .ok (.iadd, 1) := by decide +kernel
theorem d_JI_bitCount_23 : decode b_JI_bitCount 23 = .ok (.istore_n 0, 1) := by decide +kernel
theorem d_JI_bitCount_24 : decode b_JI_bitCount 24 = .ok (.iload_n 0, 1) := by decide +kernel
theorem d_JI_bitCount_25 : decode b_JI_bitCount 25 = .ok (.iload_n 0, 1) := by decide +kernel
theorem d_JI_bitCount_26 : decode b_JI_bitCount 26 = .ok (.iconst 4, 1) := by decide +kernel
theorem d_JI_bitCount_27 : decode b_JI_bitCount 27 = .ok (.iushr, 1) := by decide +kernel
theorem d_JI_bitCount_28 : decode b_JI_bitCount 28 = .ok (.iadd, 1) := by decide +kernel
theorem d_JI_bitCount_29 : decode b_JI_bitCount 29 = .ok (.ldc_w 267, 3) := by decide +kernel
theorem d_JI_bitCount_32 : decode b_JI_bitCount 32 = .ok (.iand, 1) := by decide +kernel
theorem d_JI_bitCount_33 : decode b_JI_bitCount 33 = .ok (.istore_n 0, 1) := by decide +kernel
theorem d_JI_bitCount_34 : decode b_JI_bitCount 34 = .ok (.iload_n 0, 1) := by decide +kernel
theorem d_JI_bitCount_35 : decode b_JI_bitCount 35 = .ok (.iload_n 0, 1) := by decide +kernel
theorem d_JI_bitCount_36 : decode b_JI_bitCount 36 = .ok (.bipush 8, 2) := by decide +kernel
theorem d_JI_bitCount_38 : decode b_JI_bitCount 38 = .ok (.iushr, 1) := by decide +kernel
theorem d_JI_bitCount_39 : decode b_JI_bitCount 39 = .ok (.iadd, 1) := by decide +kernel
theorem d_JI_bitCount_40 : decode b_JI_bitCount 40 = .ok (.istore_n 0, 1) := by decide +kernel
theorem d_JI_bitCount_41 : decode b_JI_bitCount 41 = .ok (.iload_n 0, 1) := by decide +kernel
theorem d_JI_bitCount_42 : decode b_JI_bitCount 42 = .ok (.iload_n 0, 1) := by decide +kernel
theorem d_JI_bitCount_43 : decode b_JI_bitCount 43 = .ok (.bipush 16, 2) := by decide +kernel
theorem d_JI_bitCount_45 : decode b_JI_bitCount 45 = .ok (.iushr, 1) := by decide +kernel
theorem d_JI_bitCount_46 : decode b_JI_bitCount 46 = .ok (.iadd, 1) := by decide +kernel
theorem d_JI_bitCount_47 : decode b_JI_bitCount 47 = .ok (.istore_n 0, 1) := by decide +kernel
theorem d_JI_bitCount_48 : decode b_JI_bitCount 48 = .ok (.iload_n 0, 1) := by decide +kernel
theorem d_JI_bitCount_49 : decode b_JI_bitCount 49 = .ok (.bipush 63, 2) := by decide +kernel
theorem d_JI_bitCount_51 : decode b_JI_bitCount 51 = .ok (.iand, 1) := by decide +kernel
theorem d_JI_bitCount_52 : decode b_JI_bitCount 52 = .ok (.ireturn, 1) := by decide +kernel
theorem d_VF_agreeOnSensors_0 : decode b_VF_agreeOnSensors 0 = .ok (.iconst 0, 1) := by decide +kernel
theorem d_VF_agreeOnSensors_1 : decode b_VF_agreeOnSensors 1 = .ok (.istore_n 1, 1) := by decide +kernel
theorem d_VF_agreeOnSensors_2 : decode b_VF_agreeOnSensors 2 = .ok (.iload_n 1, 1) := by decide +kernel
theorem d_VF_agreeOnSensors_3 : decode b_VF_agreeOnSensors 3 = .ok (.aload_n 0, 1) := by decide +kernel
theorem d_VF_agreeOnSensors_4 : decode b_VF_agreeOnSensors 4 = .ok (.getfield 13, 3) := by decide +kernel
theorem d_VF_agreeOnSensors_7 : decode b_VF_agreeOnSensors 7 = .ok (.if_icmp .ge 71, 3) := by decide +kernel
theorem d_VF_agreeOnSensors_10 : decode b_VF_agreeOnSensors 10 = .ok (.aload_n 0, 1) := by decide +kernel
theorem d_VF_agreeOnSensors_11 : decode b_VF_agreeOnSensors 11 = .ok (.getfield 40, 3) := by decide +kernel
theorem d_VF_agreeOnSensors_14 : decode b_VF_agreeOnSensors 14 = .ok (.iload_n 1, 1) := by decide +kernel
theorem d_VF_agreeOnSensors_15 : decode b_VF_agreeOnSensors 15 = .ok (.aload_n 0, 1) := by decide +kernel
theorem d_VF_agreeOnSensors_16 : decode b_VF_agreeOnSensors 16 = .ok (.getfield 31, 3) := by decide +kernel
theorem d_VF_agreeOnSensors_19 : decode b_VF_agreeOnSensors 19 = .ok (.iload_n 1, 1) := by decide +kernel
theorem d_VF_agreeOnSensors_20 : decode b_VF_agreeOnSensors 20 = .ok (.aaload, 1) := by decide +kernel
theorem d_VF_agreeOnSensors_21 : decode b_VF_agreeOnSensors 21 = .ok (.getfield 94, 3) := by decide +kernel
theorem d_VF_agreeOnSensors_24 : decode b_VF_agreeOnSensors 24 = .ok (.invokevirtual 201, 3) := by decide +kernel
theorem d_VF_agreeOnSensors_27 : decode b_VF_agreeOnSensors 27 = .ok (.iconst 0, 1) := by decide +kernel
theorem d_VF_agreeOnSensors_28 : decode b_VF_agreeOnSensors 28 = .ok (.istore_n 2, 1) := by decide +kernel
theorem d_VF_agreeOnSensors_29 : decode b_VF_agreeOnSensors 29 = .ok (.iload_n 2, 1) := by decide +kernel
theorem d_VF_agreeOnSensors_30 : decode b_VF_agreeOnSensors 30 = .ok (.aload_n 0, 1) := by decide +kernel
theorem d_VF_agreeOnSensors_31 : decode b_VF_agreeOnSensors 31 = .ok (.getfield 13, 3) := by decide +kernel
theorem d_VF_agreeOnSensors_34 : decode b_VF_agreeOnSensors 34 = .ok (.if_icmp .ge 28, 3) := by decide +kernel
theorem d_VF_agreeOnSensors_37 : decode b_VF_agreeOnSensors 37 = .ok (.aload_n 0, 1) := by decide +kernel
theorem d_VF_agreeOnSensors_38 : decode b_VF_agreeOnSensors 38 = .ok (.getfield 31, 3) := by decide +kernel
theorem d_VF_agreeOnSensors_41 : decode b_VF_agreeOnSensors 41 = .ok (.iload_n 2, 1) := by decide +kernel
theorem d_VF_agreeOnSensors_42 : decode b_VF_agreeOnSensors 42 = .ok (.aaload, 1) := by decide +kernel
theorem d_VF_agreeOnSensors_43 : decode b_VF_agreeOnSensors 43 = .ok (.getfield 133, 3) := by decide +kernel
theorem d_VF_agreeOnSensors_46 : decode b_VF_agreeOnSensors 46 = .ok (.iload_n 1, 1) := by decide +kernel
theorem d_VF_agreeOnSensors_47 : decode b_VF_agreeOnSensors 47 = .ok (.aload_n 0, 1) := by decide +kernel
theorem d_VF_agreeOnSensors_48 : decode b_VF_agreeOnSensors 48 = .ok (.getfield 40, 3) := by decide +kernel
theorem d_VF_agreeOnSensors_51 : decode b_VF_agreeOnSensors 51 = .ok (.iload_n 2, 1) := by decide +kernel
theorem d_VF_agreeOnSensors_52 : decode b_VF_agreeOnSensors 52 = .ok (.invokevirtual 204, 3) := by decide +kernel
theorem d_VF_agreeOnSensors_55 : decode b_VF_agreeOnSensors 55 = .ok (.iastore, 1) := by decide +kernel
theorem d_VF_agreeOnSensors_56 : decode b_VF_agreeOnSensors 56 = .ok (.iinc 2 1, 3) := by decide +kernel
theorem d_VF_agreeOnSensors_59 : decode b_VF_agreeOnSensors 59 = .ok (.goto (-30), 3) := by decide +kernel
theorem d_VF_agreeOnSensors_62 : decode b_VF_agreeOnSensors 62 = .ok (.aload_n 0, 1) := by decide +kernel
theorem d_VF_agreeOnSensors_63 : decode b_VF_agreeOnSensors 63 = .ok (.getfield 31, 3) := by decide +kernel
theorem d_VF_agreeOnSensors_66 : decode b_VF_agreeOnSensors 66 = .ok (.iload_n 1, 1) := by decide +kernel
theorem d_VF_agreeOnSensors_67 : decode b_VF_agreeOnSensors 67 = .ok (.aaload, 1) := by decide +kernel
theorem d_VF_agreeOnSensors_68 : decode b_VF_agreeOnSensors 68 = .ok (.iconst 0, 1) := by decide +kernel
theorem d_VF_agreeOnSensors_69 : decode b_VF_agreeOnSensors 69 = .ok (.putfield 149, 3) := by decide +kernel
theorem d_VF_agreeOnSensors_72 : decode b_VF_agreeOnSensors 72 = .ok (.iinc 1 1, 3) := by decide +kernel
theorem d_VF_agreeOnSensors_75 : decode b_VF_agreeOnSensors 75 = .ok (.goto (-73), 3) := by decide +kernel
theorem d_VF_agreeOnSensors_78 : decode b_VF_agreeOnSensors 78 = .ok (.return_, 1) := by decide +kernel
theorem d_VF_majorityPlace_0 : decode b_VF_majorityPlace 0 = .ok (.iconst 0, 1) := by decide +kernel
theorem d_VF_majorityPlace_1 : decode b_VF_majorityPlace 1 = .ok (.istore_n 3, 1) := by decide +kernel
theorem d_VF_majorityPlace_2 : decode b_VF_majorityPlace 2 = .ok (.iload_n 3, 1) := by decide +kernel
theorem d_VF_majorityPlace_3 : decode b_VF_majorityPlace 3 = .ok (.iload_n 1, 1) := by decide +kernel
theorem d_VF_majorityPlace_4 : decode b_VF_majorityPlace 4 = .ok (.if_icmp .ge 50, 3) := by decide +kernel
theorem d_VF_majorityPlace_7 : decode b_VF_majorityPlace 7 = .ok (.iconst 0, 1) := by decide +kernel
theorem d_VF_majorityPlace_8 : decode b_VF_majorityPlace 8 = .ok (.istore 4, 2) := by decide +kernel
theorem d_VF_majorityPlace_10 : decode b_VF_majorityPlace 10 = .ok (.iload_n 3, 1) := by decide +kernel
theorem d_VF_majorityPlace_11 : decode b_VF_majorityPlace 11 = .ok (.istore 5, 2) := by decide +kernel
theorem d_VF_majorityPlace_13 : decode b_VF_majorityPlace 13 = .ok (.iload 5, 2) := by decide +kernel
theorem d_VF_majorityPlace_15 : decode b_VF_majorityPlace 15 = .ok (.iload_n 1, 1) := by decide +kernel
theorem d_VF_majorityPlace_16 : decode b_VF_majorityPlace 16 = .ok (.if_icmp .ge 22, 3) := by decide +kernel
theorem d_VF_majorityPlace_19 : decode b_VF_majorityPlace 19 = .ok (.aload_n 0, 1) := by decide +kernel
theorem d_VF_majorityPlace_20 : decode b_VF_majorityPlace 20 = .ok (.iload 5, 2) := by decide +kernel
theorem d_VF_majorityPlace_22 : decode b_VF_majorityPlace 22 = .ok (.iaload, 1) := by decide +kernel
theorem d_VF_majorityPlace_23 : decode b_VF_majorityPlace 23 = .ok (.aload_n 0, 1) := by decide +kernel
theorem d_VF_majorityPlace_24 : decode b_VF_majorityPlace 24 = .ok (.iload_n 3, 1) := by decide +kernel
theorem d_VF_majorityPlace_25 : decode b_VF_majorityPlace 25 = .ok (.iaload, 1) := by decide +kernel
theorem d_VF_majorityPlace_26 : decode b_VF_majorityPlace 26 = .ok (.if_icmp .ne 6, 3) := by decide +kernel
theorem d_VF_majorityPlace_29 : decode b_VF_majorityPlace 29 = .ok (.iinc 4 1, 3) := by decide +kernel
theorem d_VF_majorityPlace_32 : decode b_VF_majorityPlace 32 = .ok (.iinc 5 1, 3) := by decide +kernel
theorem d_VF_majorityPlace_35 : decode b_VF_majorityPlace 35 = .ok (.goto (-22), 3) := by decide +kernel
theorem d_VF_majorityPlace_38 : decode b_VF_majorityPlace 38 = .ok (.iconst 2, 1) := by decide +kernel
theorem d_VF_majorityPlace_39 : decode b_VF_majorityPlace 39 = .ok (.iload 4, 2) := by decide +kernel
theorem d_VF_majorityPlace_41 : decode b_VF_majorityPlace 41 = .ok (.imul, 1) := by decide +kernel
theorem d_VF_majorityPlace_42 : decode b_VF_majorityPlace 42 = .ok (.iload_n 2, 1) := by decide +kernel
theorem d_VF_majorityPlace_43 : decode b_VF_majorityPlace 43 = .ok (.if_icmp .le 5, 3) := by decide +kernel
theorem d_VF_majorityPlace_46 : decode b_VF_majorityPlace 46 = .ok (.iload_n 3, 1) := by decide +kernel
theorem d_VF_majorityPlace_47 : decode b_VF_majorityPlace 47 = .ok (.ireturn, 1) := by decide +kernel
theorem d_VF_majorityPlace_48 : decode b_VF_majorityPlace 48 = .ok (.iinc 3 1, 3) := by decide +kernel
theorem d_VF_majorityPlace_51 : decode b_VF_majorityPlace 51 = .ok (.goto (-49), 3) := by decide +kernel
theorem d_VF_majorityPlace_54 : decode b_VF_majorityPlace 54 = .ok (.iconst (-1), 1) := by decide +kernel
theorem d_VF_majorityPlace_55 : decode b_VF_majorityPlace 55 = .ok (.ireturn, 1) := by decide +kernel
theorem d_VF_runDueTasks_0 : decode b_VF_runDueTasks 0 = .ok (.aload_n 0, 1) := by decide +kernel
theorem d_VF_runDueTasks_1 : decode b_VF_runDueTasks 1 = .ok (.invokevirtual 152, 3) := by decide +kernel
theorem d_VF_runDueTasks_4 : decode b_VF_runDueTasks 4 = .ok (.istore_n 1, 1) := by decide +kernel
theorem d_VF_runDueTasks_5 : decode b_VF_runDueTasks 5 = .ok (.iload_n 1, 1) := by decide +kernel
theorem d_VF_runDueTasks_6 : decode b_VF_runDueTasks 6 = .ok (.ifCond .ge 10, 3) := by decide +kernel
theorem d_VF_runDueTasks_9 : decode b_VF_runDueTasks 9 = .ok (.aload_n 0, 1) := by decide +kernel
theorem d_VF_runDueTasks_10 : decode b_VF_runDueTasks 10 = .ok (.getfield 63, 3) := by decide +kernel
theorem d_VF_runDueTasks_13 : decode b_VF_runDueTasks 13 = .ok (.goto 12, 3) := by decide +kernel
theorem d_VF_runDueTasks_16 : decode b_VF_runDueTasks 16 = .ok (.aload_n 0, 1) := by decide +kernel
theorem d_VF_runDueTasks_17 : decode b_VF_runDueTasks 17 = .ok (.getfield 31, 3) := by decide +kernel
theorem d_VF_runDueTasks_20 : decode b_VF_runDueTasks 20 = .ok (.iload_n 1, 1) := by decide +kernel
theorem d_VF_runDueTasks_21 : decode b_VF_runDueTasks 21 = .ok (.aaload, 1) := by decide +kernel
theorem d_VF_runDueTasks_22 : decode b_VF_runDueTasks 22 = .ok (.getfield 133, 3) := by decide +kernel
theorem d_VF_runDueTasks_25 : decode b_VF_runDueTasks 25 = .ok (.astore_n 2, 1) := by decide +kernel
theorem d_VF_runDueTasks_26 : decode b_VF_runDueTasks 26 = .ok (.iconst 0, 1) := by decide +kernel
theorem d_VF_runDueTasks_27 : decode b_VF_runDueTasks 27 = .ok (.istore_n 3, 1) := by decide +kernel
theorem d_VF_runDueTasks_28 : decode b_VF_runDueTasks 28 = .ok (.iload_n 3, 1) := by decide +kernel
theorem d_VF_runDueTasks_29 : decode b_VF_runDueTasks 29 = .ok (.iconst 4, 1) := by decide +kernel
theorem d_VF_runDueTasks_30 : decode b_VF_runDueTasks 30 = .ok (.if_icmp .ge 54, 3) := by decide +kernel
theorem d_VF_runDueTasks_33 : decode b_VF_runDueTasks 33 = .ok (.aload_n 0, 1) := by decide +kernel
theorem d_VF_runDueTasks_34 : decode b_VF_runDueTasks 34 = .ok (.getfield 48, 3) := by decide +kernel
theorem d_VF_runDueTasks_37 : decode b_VF_runDueTasks 37 = .ok (.iload_n 3, 1) := by decide +kernel
theorem d_VF_runDueTasks_38 : decode b_VF_runDueTasks 38 = .ok (.aaload, 1) := by decide +kernel
theorem d_VF_runDueTasks_39 : decode b_VF_runDueTasks 39 = .ok (.aload_n 0, 1) := by decide +kernel
theorem d_VF_runDueTasks_40 : decode b_VF_runDueTasks 40 = .ok (.getfield 127, 3) := by decide +kernel
theorem d_VF_runDueTasks_43 : decode b_VF_runDueTasks 43 = .ok (.invokevirtual 207, 3) := by decide +kernel
theorem d_VF_runDueTasks_46 : decode b_VF_runDueTasks 46 = .ok (.ifCond .eq 32, 3) := by decide +kernel
theorem d_VF_runDueTasks_49 : decode b_VF_runDueTasks 49 = .ok (.aload_n 0, 1) := by decide +kernel
theorem d_VF_runDueTasks_50 : decode b_VF_runDueTasks 50 = .ok (.iload_n 3, 1) := by decide +kernel
theorem d_VF_runDueTasks_51 : decode b_VF_runDueTasks 51 = .ok (.invokevirtual 210, 3) := by decide +kernel
theorem d_VF_runDueTasks_54 : decode b_VF_runDueTasks 54 = .ok (.aload_n 0, 1) := by decide +kernel
theorem d_VF_runDueTasks_55 : decode b_VF_runDueTasks 55 = .ok (.getfield 59, 3) := by decide +kernel
theorem d_VF_runDueTasks_58 : decode b_VF_runDueTasks 58 = .ok (.iload_n 3, 1) := by decide +kernel
theorem d_VF_runDueTasks_59 : decode b_VF_runDueTasks 59 = .ok (.aload_n 0, 1) := by decide +kernel
theorem d_VF_runDueTasks_60 : decode b_VF_runDueTasks 60 = .ok (.getfield 55, 3) := by decide +kernel
theorem d_VF_runDueTasks_63 : decode b_VF_runDueTasks 63 = .ok (.aload_n 0, 1) := by decide +kernel
theorem d_VF_runDueTasks_64 : decode b_VF_runDueTasks 64 = .ok (.getfield 48, 3) := by decide +kernel
theorem d_VF_runDueTasks_67 : decode b_VF_runDueTasks 67 = .ok (.iload_n 3, 1) := by decide +kernel
theorem d_VF_runDueTasks_68 : decode b_VF_runDueTasks 68 = .ok (.aaload, 1) := by decide +kernel
theorem d_VF_runDueTasks_69 : decode b_VF_runDueTasks 69 = .ok (.aload_n 2, 1) := by decide +kernel
theorem d_VF_runDueTasks_70 : decode b_VF_runDueTasks 70 = .ok (.aload_n 0, 1) := by decide +kernel
theorem d_VF_runDueTasks_71 : decode b_VF_runDueTasks 71 = .ok (.getfield 59, 3) := by decide +kernel
theorem d_VF_runDueTasks_74 : decode b_VF_runDueTasks 74 = .ok (.invokevirtual 213, 3) := by decide +kernel
theorem d_VF_runDueTasks_77 : decode b_VF_runDueTasks 77 = .ok (.iastore, 1) := by decide +kernel
theorem d_VF_runDueTasks_78 : decode b_VF_runDueTasks 78 = .ok (.iinc 3 1, 3) := by decide +kernel
theorem d_VF_runDueTasks_81 : decode b_VF_runDueTasks 81 = .ok (.goto (-53), 3) := by decide +kernel
theorem d_VF_runDueTasks_84 : decode b_VF_runDueTasks 84 = .ok (.return_, 1) := by decide +kernel
theorem d_VF_leastCorrect_0 : decode b_VF_leastCorrect 0 = .ok (.iconst 0, 1) := by decide +kernel
theorem d_VF_leastCorrect_1 : decode b_VF_leastCorrect 1 = .ok (.istore_n 1, 1) := by decide +kernel
theorem d_VF_leastCorrect_2 : decode b_VF_leastCorrect 2 = .ok (.iload_n 1, 1) := by decide +kernel
theorem d_VF_leastCorrect_3 : decode b_VF_leastCorrect 3 = .ok (.aload_n 0, 1) := by decide +kernel
theorem d_VF_leastCorrect_4 : decode b_VF_leastCorrect 4 = .ok (.getfield 13, 3) := by decide +kernel
theorem d_VF_leastCorrect_7 : decode b_VF_leastCorrect 7 = .ok (.if_icmp .ge 23, 3) := by decide +kernel
theorem d_VF_leastCorrect_10 : decode b_VF_leastCorrect 10 = .ok (.aload_n 0, 1) := by decide +kernel
theorem d_VF_leastCorrect_11 : decode b_VF_leastCorrect 11 = .ok (.getfield 31, 3) := by decide +kernel
theorem d_VF_leastCorrect_14 : decode b_VF_leastCorrect 14 = .ok (.iload_n 1, 1) := by decide +kernel
theorem d_VF_leastCorrect_15 : decode b_VF_leastCorrect 15 = .ok (.aaload, 1) := by decide +kernel
theorem d_VF_leastCorrect_16 : decode b_VF_leastCorrect 16 = .ok (.getfield 97, 3) := by decide +kernel
theorem d_VF_leastCorrect_19 : decode b_VF_leastCorrect 19 = .ok (.ifCond .ne 5, 3) := by decide +kernel
theorem d_VF_leastCorrect_22 : decode b_VF_leastCorrect 22 = .ok (.iload_n 1, 1) := by decide +kernel
theorem d_VF_leastCorrect_23 : decode b_VF_leastCorrect 23 = .ok (.ireturn, 1) := by decide +kernel
theorem d_VF_leastCorrect_24 : decode b_VF_leastCorrect 24 = .ok (.iinc 1 1, 3) := by decide +kernel
theorem d_VF_leastCorrect_27 : decode b_VF_leastCorrect 27 = .ok (.goto (-25), 3) := by decide +kernel
theorem d_VF_leastCorrect_30 : decode b_VF_leastCorrect 30 = .ok (.iconst (-1), 1) := by decide +kernel
theorem d_VF_leastCorrect_31 : decode b_VF_leastCorrect 31 = .ok (.ireturn, 1) := by decide +kernel
theorem d_VF_runOnAllNodes_0 : decode b_VF_runOnAllNodes 0 = .ok (.iconst 0, 1) := by decide +kernel
theorem d_VF_runOnAllNodes_1 : decode b_VF_runOnAllNodes 1 = .ok (.istore_n 2, 1) := by decide +kernel
theorem d_VF_runOnAllNodes_2 : decode b_VF_runOnAllNodes 2 = .ok (.iload_n 2, 1) := by decide +kernel
theorem d_VF_runOnAllNodes_3 : decode b_VF_runOnAllNodes 3 = .ok (.aload_n 0, 1) := by decide +kernel
theorem d_VF_runOnAllNodes_4 : decode b_VF_runOnAllNodes 4 = .ok (.getfield 13, 3) := by decide +kernel
theorem d_VF_runOnAllNodes_7 : decode b_VF_runOnAllNodes 7 = .ok (.if_icmp .ge 46, 3) := by decide +kernel
theorem d_VF_runOnAllNodes_10 : decode b_VF_runOnAllNodes 10 = .ok (.aload_n 0, 1) := by decide +kernel
theorem d_VF_runOnAllNodes_11 : decode b_VF_runOnAllNodes 11 = .ok (.getfield 66, 3) := by decide +kernel
theorem d_VF_runOnAllNodes_14 : decode b_VF_runOnAllNodes 14 = .ok (.iload_n 2, 1) := by decide +kernel
theorem d_VF_runOnAllNodes_15 : decode b_VF_runOnAllNodes 15 = .ok (.aload_n 0, 1) := by decide +kernel
theorem d_VF_runOnAllNodes_16 : decode b_VF_runOnAllNodes 16 = .ok (.getfield 55, 3) := by decide +kernel
theorem d_VF_runOnAllNodes_19 : decode b_VF_runOnAllNodes 19 = .ok (.aload_n 0, 1) := by decide +kernel
theorem d_VF_runOnAllNodes_20 : decode b_VF_runOnAllNodes 20 = .ok (.getfield 48, 3) := by decide +kernel
theorem d_VF_runOnAllNodes_23 : decode b_VF_runOnAllNodes 23 = .ok (.iload_n 1, 1) := by decide +kernel
theorem d_VF_runOnAllNodes_24 : decode b_VF_runOnAllNodes 24 = .ok (.aaload, 1) := by decide +kernel
theorem d_VF_runOnAllNodes_25 : decode b_VF_runOnAllNodes 25 = .ok (.aload_n 0, 1) := by decide +kernel
theorem d_VF_runOnAllNodes_26 : decode b_VF_runOnAllNodes 26 = .ok (.getfield 31, 3) := by decide +kernel
theorem d_VF_runOnAllNodes_29 : decode b_VF_runOnAllNodes 29 = .ok (.iload_n 2, 1) := by decide +kernel
theorem d_VF_runOnAllNodes_30 : decode b_VF_runOnAllNodes 30 = .ok (.aaload, 1) := by decide +kernel
theorem d_VF_runOnAllNodes_31 : decode b_VF_runOnAllNodes 31 = .ok (.getfield 133, 3) := by decide +kernel
theorem d_VF_runOnAllNodes_34 : decode b_VF_runOnAllNodes 34 = .ok (.aload_n 0, 1) := by decide +kernel
theorem d_VF_runOnAllNodes_35 : decode b_VF_runOnAllNodes 35 = .ok (.getfield 31, 3) := by decide +kernel
theorem d_VF_runOnAllNodes_38 : decode b_VF_runOnAllNodes 38 = .ok (.iload_n 2, 1) := by decide +kernel
theorem d_VF_runOnAllNodes_39 : decode b_VF_runOnAllNodes 39 = .ok (.aaload, 1) := by decide +kernel
theorem d_VF_runOnAllNodes_40 : decode b_VF_runOnAllNodes 40 = .ok (.getfield 139, 3) := by decide +kernel
theorem d_VF_runOnAllNodes_43 : decode b_VF_runOnAllNodes 43 = .ok (.invokevirtual 213, 3) := by decide +kernel
theorem d_VF_runOnAllNodes_46 : decode b_VF_runOnAllNodes 46 = .ok (.iastore, 1) := by decide +kernel
theorem d_VF_runOnAllNodes_47 : decode b_VF_runOnAllNodes 47 = .ok (.iinc 2 1, 3) := by decide +kernel
theorem d_VF_runOnAllNodes_50 : decode b_VF_runOnAllNodes 50 = .ok (.goto (-48), 3) := by decide +kernel
theorem d_VF_runOnAllNodes_53 : decode b_VF_runOnAllNodes 53 = .ok (.iconst 0, 1) := by decide +kernel
theorem d_VF_runOnAllNodes_54 : decode b_VF_runOnAllNodes 54 = .ok (.istore_n 2, 1) := by decide +kernel
theorem d_VF_runOnAllNodes_55 : decode b_VF_runOnAllNodes 55 = .ok (.iload_n 2, 1) := by decide +kernel
theorem d_VF_runOnAllNodes_56 : decode b_VF_runOnAllNodes 56 = .ok (.aload_n 0, 1) := by decide +kernel
theorem d_VF_runOnAllNodes_57 : decode b_VF_runOnAllNodes 57 = .ok (.getfield 13, 3) := by decide +kernel
theorem d_VF_runOnAllNodes_60 : decode b_VF_runOnAllNodes 60 = .ok (.if_icmp .ge 20, 3) := by decide +kernel
theorem d_VF_runOnAllNodes_63 : decode b_VF_runOnAllNodes 63 = .ok (.aload_n 0, 1) := by decide +kernel
theorem d_VF_runOnAllNodes_64 : decode b_VF_runOnAllNodes 64 = .ok (.aload_n 0, 1) := by decide +kernel
theorem d_VF_runOnAllNodes_65 : decode b_VF_runOnAllNodes 65 = .ok (.getfield 31, 3) := by decide +kernel
theorem d_VF_runOnAllNodes_68 : decode b_VF_runOnAllNodes 68 = .ok (.iload_n 2, 1) := by decide +kernel
theorem d_VF_runOnAllNodes_69 : decode b_VF_runOnAllNodes 69 = .ok (.aaload, 1) := by decide +kernel
theorem d_VF_runOnAllNodes_70 : decode b_VF_runOnAllNodes 70 = .ok (.iload_n 1, 1) := by decide +kernel
theorem d_VF_runOnAllNodes_71 : decode b_VF_runOnAllNodes 71 = .ok (.invokevirtual 217, 3) := by decide +kernel
theorem d_VF_runOnAllNodes_74 : decode b_VF_runOnAllNodes 74 = .ok (.iinc 2 1, 3) := by decide +kernel
theorem d_VF_runOnAllNodes_77 : decode b_VF_runOnAllNodes 77 = .ok (.goto (-22), 3) := by decide +kernel
theorem d_VF_runOnAllNodes_80 : decode b_VF_runOnAllNodes 80 = .ok (.return_, 1) := by decide +kernel
theorem d_JM_floorDiv_0 : decode b_JM_floorDiv 0 = .ok (.iload_n 0, 1) := by decide +kernel
theorem d_JM_floorDiv_1 : decode b_JM_floorDiv 1 = .ok (.iload_n 1, 1) := by decide +kernel
theorem d_JM_floorDiv_2 : decode b_JM_floorDiv 2 = .ok (.idiv, 1) := by decide +kernel
theorem d_JM_floorDiv_3 : decode b_JM_floorDiv 3 = .ok (.istore_n 2, 1) := by decide +kernel
theorem d_JM_floorDiv_4 : decode b_JM_floorDiv 4 = .ok (.iload_n 0, 1) := by decide +kernel
theorem d_JM_floorDiv_5 : decode b_JM_floorDiv 5 = .ok (.iload_n 1, 1) := by decide +kernel
theorem d_JM_floorDiv_6 : decode b_JM_floorDiv 6 = .ok (.ixor, 1) := by decide +kernel
theorem d_JM_floorDiv_7 : decode b_JM_floorDiv 7 = .ok (.ifCond .ge 14, 3) := by decide +kernel
theorem d_JM_floorDiv_10 : decode b_JM_floorDiv 10 = .ok (.iload_n 2, 1) := by decide +kernel
theorem d_JM_floorDiv_11 : decode b_JM_floorDiv 11 = .ok (.iload_n 1, 1) := by decide +kernel
theorem d_JM_floorDiv_12 : decode b_JM_floorDiv 12 = .ok (.imul, 1) := by decide +kernel
theorem d_JM_floorDiv_13 : decode b_JM_floorDiv 13 = .ok (.iload_n 0, 1) := by decide +kernel
theorem d_JM_floorDiv_14 : decode b_JM_floorDiv 14 = .ok (.if_icmp .eq 7, 3) := by decide +kernel
theorem d_JM_floorDiv_17 : decode b_JM_floorDiv 17 = .ok (.iload_n 2, 1) := by decide +kernel
theorem d_JM_floorDiv_18 : decode b_JM_floorDiv 18 = .ok (.iconst 1, 1) := by decide +kernel
theorem d_JM_floorDiv_19 : decode b_JM_floorDiv 19 = .ok (.isub, 1) := by decide +kernel
theorem d_JM_floorDiv_20 : decode b_JM_floorDiv 20 = .ok (.ireturn, 1) := by decide +kernel
theorem d_JM_floorDiv_21 : decode b_JM_floorDiv 21 = .ok (.iload_n 2, 1) := by decide +kernel
theorem d_JM_floorDiv_22 : decode b_JM_floorDiv 22 = .ok (.ireturn, 1) := by decide +kernel
theorem d_VF_vote_0 : decode b_VF_vote 0 = .ok (.aload_n 0, 1) := by decide +kernel
theorem d_VF_vote_1 : decode b_VF_vote 1 = .ok (.aload_n 1, 1) := by decide +kernel
theorem d_VF_vote_2 : decode b_VF_vote 2 = .ok (.invokevirtual 221, 3) := by decide +kernel
theorem d_VF_vote_5 : decode b_VF_vote 5 = .ok (.istore_n 3, 1) := by decide +kernel
theorem d_VF_vote_6 : decode b_VF_vote 6 = .ok (.aload_n 0, 1) := by decide +kernel
theorem d_VF_vote_7 : decode b_VF_vote 7 = .ok (.getfield 69, 3) := by decide +kernel
theorem d_VF_vote_10 : decode b_VF_vote 10 = .ok (.iload_n 3, 1) := by decide +kernel
theorem d_VF_vote_11 : decode b_VF_vote 11 = .ok (.aload_n 1, 1) := by decide +kernel
theorem d_VF_vote_12 : decode b_VF_vote 12 = .ok (.invokevirtual 225, 3) := by decide +kernel
theorem d_VF_vote_15 : decode b_VF_vote 15 = .ok (.invokestatic 228, 3) := by decide +kernel
theorem d_VF_vote_18 : decode b_VF_vote 18 = .ok (.istore 4, 2) := by decide +kernel
theorem d_VF_vote_20 : decode b_VF_vote 20 = .ok (.iload 4, 2) := by decide +kernel
theorem d_VF_vote_22 : decode b_VF_vote 22 = .ok (.ifCond .ge 11, 3) := by decide +kernel
theorem d_VF_vote_25 : decode b_VF_vote 25 = .ok (.aload_n 1, 1) := by decide +kernel
theorem d_VF_vote_26 : decode b_VF_vote 26 = .ok (.getfield 139, 3) := by decide +kernel
theorem d_VF_vote_29 : decode b_VF_vote 29 = .ok (.iload_n 2, 1) := by decide +kernel
theorem d_VF_vote_30 : decode b_VF_vote 30 = .ok (.iconst 0, 1) := by decide +kernel
theorem d_VF_vote_31 : decode b_VF_vote 31 = .ok (.iastore, 1) := by decide +kernel
theorem d_VF_vote_32 : decode b_VF_vote 32 = .ok (.return_, 1) := by decide +kernel
theorem d_VF_vote_33 : decode b_VF_vote 33 = .ok (.aload_n 1, 1) := by decide +kernel
theorem d_VF_vote_34 : decode b_VF_vote 34 = .ok (.getfield 139, 3) := by decide +kernel
theorem d_VF_vote_37 : decode b_VF_vote 37 = .ok (.iload_n 2, 1) := by decide +kernel
theorem d_VF_vote_38 : decode b_VF_vote 38 = .ok (.aload_n 0, 1) := by decide +kernel
theorem d_VF_vote_39 : decode b_VF_vote 39 = .ok (.getfield 69, 3) := by decide +kernel
theorem d_VF_vote_42 : decode b_VF_vote 42 = .ok (.iload 4, 2) := by decide +kernel
theorem d_VF_vote_44 : decode b_VF_vote 44 = .ok (.iaload, 1) := by decide +kernel
theorem d_VF_vote_45 : decode b_VF_vote 45 = .ok (.iastore, 1) := by decide +kernel
theorem d_VF_vote_46 : decode b_VF_vote 46 = .ok (.aload_n 1, 1) := by decide +kernel
theorem d_VF_vote_47 : decode b_VF_vote 47 = .ok (.dup, 1) := by decide +kernel
theorem d_VF_vote_48 : decode b_VF_vote 48 = .ok (.getfield 149, 3) := by decide +kernel
theorem d_VF_vote_51 : decode b_VF_vote 51 = .ok (.aload_n 0, 1) := by decide +kernel
theorem d_VF_vote_52 : decode b_VF_vote 52 = .ok (.aload_n 0, 1) := by decide +kernel
theorem d_VF_vote_53 : decode b_VF_vote 53 = .ok (.getfield 69, 3) := by decide +kernel
theorem d_VF_vote_56 : decode b_VF_vote 56 = .ok (.iload 4, 2) := by decide +kernel
theorem d_VF_vote_58 : decode b_VF_vote 58 = .ok (.iaload, 1) := by decide +kernel
theorem d_VF_vote_59 : decode b_VF_vote 59 = .ok (.aload_n 1, 1) := by decide +kernel
theorem d_VF_vote_60 : decode b_VF_vote 60 = .ok (.invokevirtual 232, 3) := by decide +kernel
theorem d_VF_vote_63 : decode b_VF_vote 63 = .ok (.ior, 1) := by decide +kernel
theorem d_VF_vote_64 : decode b_VF_vote 64 = .ok (.putfield 149, 3) := by decide +kernel
theorem d_VF_vote_67 : decode b_VF_vote 67 = .ok (.return_, 1) := by decide +kernel
theorem d_VF_fillBallot_0 : decode b_VF_fillBallot 0 = .ok (.aload_n 0, 1) := by decide +kernel
theorem d_VF_fillBallot_1 : decode b_VF_fillBallot 1 = .ok (.getfield 69, 3) := by decide +kernel
theorem d_VF_fillBallot_4 : decode b_VF_fillBallot 4 = .ok (.iconst 0, 1) := by decide +kernel
theorem d_VF_fillBallot_5 : decode b_VF_fillBallot 5 = .ok (.aload_n 0, 1) := by decide +kernel
theorem d_VF_fillBallot_6 : decode b_VF_fillBallot 6 = .ok (.getfield 66, 3) := by decide +kernel
theorem d_VF_fillBallot_9 : decode b_VF_fillBallot 9 = .ok (.aload_n 1, 1) := by decide +kernel
theorem d_VF_fillBallot_10 : decode b_VF_fillBallot 10 = .ok (.getfield 236, 3) := by decide +kernel
theorem d_VF_fillBallot_13 : decode b_VF_fillBallot 13 = .ok (.iaload, 1) := by decide +kernel
theorem d_VF_fillBallot_14 : decode b_VF_fillBallot 14 = .ok (.iastore, 1) := by decide +kernel
theorem d_VF_fillBallot_15 : decode b_VF_fillBallot 15 = .ok (.iconst 1, 1) := by decide +kernel
theorem d_VF_fillBallot_16 : decode b_VF_fillBallot 16 = .ok (.istore_n 2, 1) := by decide +kernel
theorem d_VF_fillBallot_17 : decode b_VF_fillBallot 17 = .ok (.iconst 0, 1) := by decide +kernel
theorem d_VF_fillBallot_18 : decode b_VF_fillBallot 18 = .ok (.istore_n 3, 1) := by decide +kernel
theorem d_VF_fillBallot_19 : decode b_VF_fillBallot 19 = .ok (.iload_n 3, 1) := by decide +kernel
theorem d_VF_fillBallot_20 : decode b_VF_fillBallot 20 = .ok (.aload_n 0, 1) := by decide +kernel
theorem d_VF_fillBallot_21 : decode b_VF_fillBallot 21 = .ok (.getfield 13, 3) := by decide +kernel
theorem d_VF_fillBallot_24 : decode b_VF_fillBallot 24 = .ok (.if_icmp .ge 52, 3) := by decide +kernel
theorem d_VF_fillBallot_27 : decode b_VF_fillBallot 27 = .ok (.aload_n 1, 1) := by decide +kernel
theorem d_VF_fillBallot_28 : decode b_VF_fillBallot 28 = .ok (.getfield 198, 3) := by decide +kernel
theorem d_VF_fillBallot_31 : decode b_VF_fillBallot 31 = .ok (.iload_n 3, 1) := by decide +kernel
theorem d_VF_fillBallot_32 : decode b_VF_fillBallot 32 = .ok (.invokestatic 239, 3) := by decide +kernel
theorem d_VF_fillBallot_35 : decode b_VF_fillBallot 35 = .ok (.ifCond .eq 35, 3) := by decide +kernel
theorem d_VF_fillBallot_38 : decode b_VF_fillBallot 38 = .ok (.aload_n 0, 1) := by decide +kernel
theorem d_VF_fillBallot_39 : decode b_VF_fillBallot 39 = .ok (.getfield 69, 3) := by decide +kernel
theorem d_VF_fillBallot_42 : decode b_VF_fillBallot 42 = .ok (.iload_n 2, 1) := by decide +kernel
theorem d_VF_fillBallot_43 : decode b_VF_fillBallot 43 = .ok (.aload_n 0, 1) := by decide +kernel
theorem d_VF_fillBallot_44 : decode b_VF_fillBallot 44 = .ok (.getfield 31, 3) := by decide +kernel
theorem d_VF_fillBallot_47 : decode b_VF_fillBallot 47 = .ok (.iload_n 3, 1) := by decide +kernel
theorem d_VF_fillBallot_48 : decode b_VF_fillBallot 48 = .ok (.aaload, 1) := by decide +kernel
theorem d_VF_fillBallot_49 : decode b_VF_fillBallot 49 = .ok (.aload_n 0, 1) := by decide +kernel
theorem d_VF_fillBallot_50 : decode b_VF_fillBallot 50 = .ok (.getfield 66, 3) := by decide +kernel
theorem d_VF_fillBallot_53 : decode b_VF_fillBallot 53 = .ok (.iload_n 3, 1) := by decide +kernel
theorem d_VF_fillBallot_54 : decode b_VF_fillBallot 54 = .ok (.iaload, 1) := by decide +kernel
theorem d_VF_fillBallot_55 : decode b_VF_fillBallot 55 = .ok (.aload_n 1, 1) := by decide +kernel
theorem d_VF_fillBallot_56 : decode b_VF_fillBallot 56 = .ok (.getfield 236, 3) := by decide +kernel
theorem d_VF_fillBallot_59 : decode b_VF_fillBallot 59 = .ok (.aload_n 0, 1) := by decide +kernel
theorem d_VF_fillBallot_60 : decode b_VF_fillBallot 60 = .ok (.getfield 127, 3) := by decide +kernel
theorem d_VF_fillBallot_63 : decode b_VF_fillBallot 63 = .ok (.invokevirtual 242, 3) := by decide +kernel
theorem d_VF_fillBallot_66 : decode b_VF_fillBallot 66 = .ok (.iastore, 1) := by decide +kernel
theorem d_VF_fillBallot_67 : decode b_VF_fillBallot 67 = .ok (.iinc 2 1, 3) := by decide +kernel
theorem d_VF_fillBallot_70 : decode b_VF_fillBallot 70 = .ok (.iinc 3 1, 3) := by decide +kernel
theorem d_VF_fillBallot_73 : decode b_VF_fillBallot 73 = .ok (.goto (-54), 3) := by decide +kernel
theorem d_VF_fillBallot_76 : decode b_VF_fillBallot 76 = .ok (.iload_n 2, 1) := by decide +kernel
theorem d_VF_fillBallot_77 : decode b_VF_fillBallot 77 = .ok (.ireturn, 1) := by decide +kernel
theorem d_VF_dissentersFrom_0 : decode b_VF_dissentersFrom 0 = .ok (.aload_n 2, 1) := by decide +kernel
theorem d_VF_dissentersFrom_1 : decode b_VF_dissentersFrom 1 = .ok (.getfield 142, 3) := by decide +kernel
theorem d_VF_dissentersFrom_4 : decode b_VF_dissentersFrom 4 = .ok (.iconst 1, 1) := by decide +kernel
theorem d_VF_dissentersFrom_5 : decode b_VF_dissentersFrom 5 = .ok (.aload_n 2, 1) := by decide +kernel
theorem d_VF_dissentersFrom_6 : decode b_VF_dissentersFrom 6 = .ok (.getfield 236, 3) := by decide +kernel
theorem d_VF_dissentersFrom_9 : decode b_VF_dissentersFrom 9 = .ok (.ishl, 1) := by decide +kernel
theorem d_VF_dissentersFrom_10 : decode b_VF_dissentersFrom 10 = .ok (.iconst (-1), 1) := by decide +kernel
theorem d_VF_dissentersFrom_11 : decode b_VF_dissentersFrom 11 = .ok (.ixor, 1) := by decide +kernel
theorem d_VF_dissentersFrom_12 : decode b_VF_dissentersFrom 12 = .ok (.iand, 1) := by decide +kernel
theorem d_VF_dissentersFrom_13 : decode b_VF_dissentersFrom 13 = .ok (.istore_n 3, 1) := by decide +kernel
theorem d_VF_dissentersFrom_14 : decode b_VF_dissentersFrom 14 = .ok (.iconst 0, 1) := by decide +kernel
theorem d_VF_dissentersFrom_15 : decode b_VF_dissentersFrom 15 = .ok (.istore 4, 2) := by decide +kernel
theorem d_VF_dissentersFrom_17 : decode b_VF_dissentersFrom 17 = .ok (.iload 4, 2) := by decide +kernel
theorem d_VF_dissentersFrom_19 : decode b_VF_dissentersFrom 19 = .ok (.aload_n 0, 1) := by decide +kernel
theorem d_VF_dissentersFrom_20 : decode b_VF_dissentersFrom 20 = .ok (.getfield 13, 3) := by decide +kernel
theorem d_VF_dissentersFrom_23 : decode b_VF_dissentersFrom 23 = .ok (.if_icmp .ge 59, 3) := by decide +kernel
theorem d_VF_dissentersFrom_26 : decode b_VF_dissentersFrom 26 = .ok (.aload_n 2, 1) := by decide +kernel
theorem d_VF_dissentersFrom_27 : decode b_VF_dissentersFrom 27 = .ok (.getfield 198, 3) := by decide +kernel
theorem d_VF_dissentersFrom_30 : decode b_VF_dissentersFrom 30 = .ok (.iload 4, 2) := by decide +kernel
theorem d_VF_dissentersFrom_32 : decode b_VF_dissentersFrom 32 = .ok (.invokestatic 239, 3) := by decide +kernel
theorem d_VF_dissentersFrom_35 : decode b_VF_dissentersFrom 35 = .ok (.ifCond .eq 41, 3) := by decide +kernel
theorem d_VF_dissentersFrom_38 : decode b_VF_dissentersFrom 38 = .ok (.aload_n 0, 1) := by decide +kernel
theorem d_VF_dissentersFrom_39 : decode b_VF_dissentersFrom 39 = .ok (.getfield 31, 3) := by decide +kernel
theorem d_VF_dissentersFrom_42 : decode b_VF_dissentersFrom 42 = .ok (.iload 4, 2) := by decide +kernel
theorem d_VF_dissentersFrom_44 : decode b_VF_dissentersFrom 44 = .ok (.aaload, 1) := by decide +kernel
theorem d_VF_dissentersFrom_45 : decode b_VF_dissentersFrom 45 = .ok (.aload_n 0, 1) := by decide +kernel
theorem d_VF_dissentersFrom_46 : decode b_VF_dissentersFrom 46 = .ok (.getfield 66, 3) := by decide +kernel
theorem d_VF_dissentersFrom_49 : decode b_VF_dissentersFrom 49 = .ok (.iload 4, 2) := by decide +kernel
theorem d_VF_dissentersFrom_51 : decode b_VF_dissentersFrom 51 = .ok (.iaload, 1) := by decide +kernel
theorem d_VF_dissentersFrom_52 : decode b_VF_dissentersFrom 52 = .ok (.aload_n 2, 1) := by decide +kernel
theorem d_VF_dissentersFrom_53 : decode b_VF_dissentersFrom 53 = .ok (.getfield 236, 3) := by decide +kernel
theorem d_VF_dissentersFrom_56 : decode b_VF_dissentersFrom 56 = .ok (.aload_n 0, 1) := by decide +kernel
theorem d_VF_dissentersFrom_57 : decode b_VF_dissentersFrom 57 = .ok (.getfield 127, 3) := by decide +kernel
theorem d_VF_dissentersFrom_60 : decode b_VF_dissentersFrom 60 = .ok (.invokevirtual 242, 3) := by decide +kernel
theorem d_VF_dissentersFrom_63 : decode b_VF_dissentersFrom 63 = .ok (.iload_n 1, 1) := by decide +kernel
theorem d_VF_dissentersFrom_64 : decode b_VF_dissentersFrom 64 = .ok (.if_icmp .ne 12, 3) := by decide +kernel
theorem d_VF_dissentersFrom_67 : decode b_VF_dissentersFrom 67 = .ok (.iload_n 3, 1) := by decide +kernel
theorem d_VF_dissentersFrom_68 : decode b_VF_dissentersFrom 68 = .ok (.iconst 1, 1) := by decide +kernel
theorem d_VF_dissentersFrom_69 : decode b_VF_dissentersFrom 69 = .ok (.iload 4, 2) := by decide +kernel
theorem d_VF_dissentersFrom_71 : decode b_VF_dissentersFrom 71 = .ok (.ishl, 1) := by decide +kernel
theorem d_VF_dissentersFrom_72 : decode b_VF_dissentersFrom 72 = .ok (.iconst (-1), 1) := by decide +kernel
theorem d_VF_dissentersFrom_73 : decode b_VF_dissentersFrom 73 = .ok (.ixor, 1) := by decide +kernel
theorem d_VF_dissentersFrom_74 : decode b_VF_dissentersFrom 74 = .ok (.iand, 1) := by decide +kernel
theorem d_VF_dissentersFrom_75 : decode b_VF_dissentersFrom 75 = .ok (.istore_n 3, 1) := by decide +kernel
theorem d_VF_dissentersFrom_76 : decode b_VF_dissentersFrom 76 = .ok (.iinc 4 1, 3) := by decide +kernel
theorem d_VF_dissentersFrom_79 : decode b_VF_dissentersFrom 79 = .ok (.goto (-62), 3) := by decide +kernel
theorem d_VF_dissentersFrom_82 : decode b_VF_dissentersFrom 82 = .ok (.iload_n 3, 1) := by decide +kernel
theorem d_VF_dissentersFrom_83 : decode b_VF_dissentersFrom 83 = .ok (.ireturn, 1) := by decide +kernel
theorem d_VF_agreeOnAccused_0 : decode b_VF_agreeOnAccused 0 = .ok (.iconst 1, 1) := by decide +kernel
theorem d_VF_agreeOnAccused_1 : decode b_VF_agreeOnAccused 1 = .ok (.aload_n 0, 1) := by decide +kernel
theorem d_VF_agreeOnAccused_2 : decode b_VF_agreeOnAccused 2 = .ok (.getfield 13, 3) := by decide +kernel
theorem d_VF_agreeOnAccused_5 : decode b_VF_agreeOnAccused 5 = .ok (.ishl, 1) := by decide +kernel
theorem d_VF_agreeOnAccused_6 : decode b_VF_agreeOnAccused 6 = .ok (.iconst 1, 1) := by decide +kernel
theorem d_VF_agreeOnAccused_7 : decode b_VF_agreeOnAccused 7 = .ok (.isub, 1) := by decide +kernel
theorem d_VF_agreeOnAccused_8 : decode b_VF_agreeOnAccused 8 = .ok (.istore_n 1, 1) := by decide +kernel
theorem d_VF_agreeOnAccused_9 : decode b_VF_agreeOnAccused 9 = .ok (.iconst 0, 1) := by decide +kernel
theorem d_VF_agreeOnAccused_10 : decode b_VF_agreeOnAccused 10 = .ok (.istore_n 2, 1) := by decide +kernel
theorem d_VF_agreeOnAccused_11 : decode b_VF_agreeOnAccused 11 = .ok (.iload_n 2, 1) := by decide +kernel
theorem d_VF_agreeOnAccused_12 : decode b_VF_agreeOnAccused 12 = .ok (.aload_n 0, 1) := by decide +kernel
theorem d_VF_agreeOnAccused_13 : decode b_VF_agreeOnAccused 13 = .ok (.getfield 13, 3) := by decide +kernel
theorem d_VF_agreeOnAccused_16 : decode b_VF_agreeOnAccused 16 = .ok (.if_icmp .ge 63, 3) := by decide +kernel
theorem d_VF_agreeOnAccused_19 : decode b_VF_agreeOnAccused 19 = .ok (.aload_n 0, 1) := by decide +kernel
theorem d_VF_agreeOnAccused_20 : decode b_VF_agreeOnAccused 20 = .ok (.getfield 40, 3) := by decide +kernel
theorem d_VF_agreeOnAccused_23 : decode b_VF_agreeOnAccused 23 = .ok (.iload_n 2, 1) := by decide +kernel
theorem d_VF_agreeOnAccused_24 : decode b_VF_agreeOnAccused 24 = .ok (.aload_n 0, 1) := by decide +kernel
theorem d_VF_agreeOnAccused_25 : decode b_VF_agreeOnAccused 25 = .ok (.getfield 31, 3) := by decide +kernel
theorem d_VF_agreeOnAccused_28 : decode b_VF_agreeOnAccused 28 = .ok (.iload_n 2, 1) := by decide +kernel
theorem d_VF_agreeOnAccused_29 : decode b_VF_agreeOnAccused 29 = .ok (.aaload, 1) := by decide +kernel
theorem d_VF_agreeOnAccused_30 : decode b_VF_agreeOnAccused 30 = .ok (.getfield 149, 3) := by decide +kernel
theorem d_VF_agreeOnAccused_33 : decode b_VF_agreeOnAccused 33 = .ok (.invokevirtual 201, 3) := by decide +kernel
theorem d_VF_agreeOnAccused_36 : decode b_VF_agreeOnAccused 36 = .ok (.iconst 0, 1) := by decide +kernel
theorem d_VF_agreeOnAccused_37 : decode b_VF_agreeOnAccused 37 = .ok (.istore_n 3, 1) := by decide +kernel
theorem d_VF_agreeOnAccused_38 : decode b_VF_agreeOnAccused 38 = .ok (.iload_n 3, 1) := by decide +kernel
theorem d_VF_agreeOnAccused_39 : decode b_VF_agreeOnAccused 39 = .ok (.aload_n 0, 1) := by decide +kernel
theorem d_VF_agreeOnAccused_40 : decode b_VF_agreeOnAccused 40 = .ok (.getfield 13, 3) := by decide +kernel
theorem d_VF_agreeOnAccused_43 : decode b_VF_agreeOnAccused 43 = .ok (.if_icmp .ge 30, 3) := by decide +kernel
theorem d_VF_agreeOnAccused_46 : decode b_VF_agreeOnAccused 46 = .ok (.aload_n 0, 1) := by decide +kernel
theorem d_VF_agreeOnAccused_47 : decode b_VF_agreeOnAccused 47 = .ok (.getfield 31, 3) := by decide +kernel
theorem d_VF_agreeOnAccused_50 : decode b_VF_agreeOnAccused 50 = .ok (.iload_n 3, 1) := by decide +kernel
theorem d_VF_agreeOnAccused_51 : decode b_VF_agreeOnAccused 51 = .ok (.aaload, 1) := by decide +kernel
theorem d_VF_agreeOnAccused_52 : decode b_VF_agreeOnAccused 52 = .ok (.getfield 136, 3) := by decide +kernel
theorem d_VF_agreeOnAccused_55 : decode b_VF_agreeOnAccused 55 = .ok (.iload_n 2, 1) := by decide +kernel
theorem d_VF_agreeOnAccused_56 : decode b_VF_agreeOnAccused 56 = .ok (.aload_n 0, 1) := by decide +kernel
theorem d_VF_agreeOnAccused_57 : decode b_VF_agreeOnAccused 57 = .ok (.getfield 40, 3) := by decide +kernel
theorem d_VF_agreeOnAccused_60 : decode b_VF_agreeOnAccused 60 = .ok (.iload_n 3, 1) := by decide +kernel
theorem d_VF_agreeOnAccused_61 : decode b_VF_agreeOnAccused 61 = .ok (.invokevirtual 204, 3) := by decide +kernel
theorem d_VF_agreeOnAccused_64 : decode b_VF_agreeOnAccused 64 = .ok (.iload_n 1, 1) := by decide +kernel
theorem d_VF_agreeOnAccused_65 : decode b_VF_agreeOnAccused 65 = .ok (.iand, 1) := by decide +kernel
theorem d_VF_agreeOnAccused_66 : decode b_VF_agreeOnAccused 66 = .ok (.iastore, 1) := by decide +kernel
theorem d_VF_agreeOnAccused_67 : decode b_VF_agreeOnAccused 67 = .ok (.iinc 3 1, 3) := by decide +kernel
theorem d_VF_agreeOnAccused_70 : decode b_VF_agreeOnAccused 70 = .ok (.goto (-32), 3) := by decide +kernel
theorem d_VF_agreeOnAccused_73 : decode b_VF_agreeOnAccused 73 = .ok (.iinc 2 1, 3) := by decide +kernel
theorem d_VF_agreeOnAccused_76 : decode b_VF_agreeOnAccused 76 = .ok (.goto (-65), 3) := by decide +kernel
theorem d_VF_agreeOnAccused_79 : decode b_VF_agreeOnAccused 79 = .ok (.return_, 1) := by decide +kernel
theorem d_VF_strikeOut_0 : decode b_VF_strikeOut 0 = .ok (.iconst 0, 1) := by decide +kernel
theorem d_VF_strikeOut_1 : decode b_VF_strikeOut 1 = .ok (.istore_n 1, 1) := by decide +kernel
theorem d_VF_strikeOut_2 : decode b_VF_strikeOut 2 = .ok (.iconst 0, 1) := by decide +kernel
theorem d_VF_strikeOut_3 : decode b_VF_strikeOut 3 = .ok (.istore_n 2, 1) := by decide +kernel
theorem d_VF_strikeOut_4 : decode b_VF_strikeOut 4 = .ok (.iload_n 2, 1) := by decide +kernel
theorem d_VF_strikeOut_5 : decode b_VF_strikeOut 5 = .ok (.aload_n 0, 1) := by decide +kernel
theorem d_VF_strikeOut_6 : decode b_VF_strikeOut 6 = .ok (.getfield 13, 3) := by decide +kernel
theorem d_VF_strikeOut_9 : decode b_VF_strikeOut 9 = .ok (.if_icmp .ge 44, 3) := by decide +kernel
theorem d_VF_strikeOut_12 : decode b_VF_strikeOut 12 = .ok (.aload_n 0, 1) := by decide +kernel
theorem d_VF_strikeOut_13 : decode b_VF_strikeOut 13 = .ok (.aload_n 0, 1) := by decide +kernel
theorem d_VF_strikeOut_14 : decode b_VF_strikeOut 14 = .ok (.getfield 31, 3) := by decide +kernel
theorem d_VF_strikeOut_17 : decode b_VF_strikeOut 17 = .ok (.iload_n 2, 1) := by decide +kernel
theorem d_VF_strikeOut_18 : decode b_VF_strikeOut 18 = .ok (.aaload, 1) := by decide +kernel
theorem d_VF_strikeOut_19 : decode b_VF_strikeOut 19 = .ok (.invokevirtual 245, 3) := by decide +kernel
theorem d_VF_strikeOut_22 : decode b_VF_strikeOut 22 = .ok (.istore_n 3, 1) := by decide +kernel
theorem d_VF_strikeOut_23 : decode b_VF_strikeOut 23 = .ok (.aload_n 0, 1) := by decide +kernel
theorem d_VF_strikeOut_24 : decode b_VF_strikeOut 24 = .ok (.getfield 31, 3) := by decide +kernel
theorem d_VF_strikeOut_27 : decode b_VF_strikeOut 27 = .ok (.iload_n 2, 1) := by decide +kernel
theorem d_VF_strikeOut_28 : decode b_VF_strikeOut 28 = .ok (.aaload, 1) := by decide +kernel
theorem d_VF_strikeOut_29 : decode b_VF_strikeOut 29 = .ok (.dup, 1) := by decide +kernel
theorem d_VF_strikeOut_30 : decode b_VF_strikeOut 30 = .ok (.getfield 142, 3) := by decide +kernel
theorem d_VF_strikeOut_33 : decode b_VF_strikeOut 33 = .ok (.iload_n 3, 1) := by decide +kernel
theorem d_VF_strikeOut_34 : decode b_VF_strikeOut 34 = .ok (.iconst (-1), 1) := by decide +kernel
theorem d_VF_strikeOut_35 : decode b_VF_strikeOut 35 = .ok (.ixor, 1) := by decide +kernel
theorem d_VF_strikeOut_36 : decode b_VF_strikeOut 36 = .ok (.iand, 1) := by decide +kernel
theorem d_VF_strikeOut_37 : decode b_VF_strikeOut 37 = .ok (.putfield 142, 3) := by decide +kernel
theorem d_VF_strikeOut_40 : decode b_VF_strikeOut 40 = .ok (.iload_n 1, 1) := by decide +kernel
theorem d_VF_strikeOut_41 : decode b_VF_strikeOut 41 = .ok (.iload_n 3, 1) := by decide +kernel
theorem d_VF_strikeOut_42 : decode b_VF_strikeOut 42 = .ok (.invokestatic 248, 3) := by decide +kernel
theorem d_VF_strikeOut_45 : decode b_VF_strikeOut 45 = .ok (.iadd, 1) := by decide +kernel
theorem d_VF_strikeOut_46 : decode b_VF_strikeOut 46 = .ok (.istore_n 1, 1) := by decide +kernel
theorem d_VF_strikeOut_47 : decode b_VF_strikeOut 47 = .ok (.iinc 2 1, 3) := by decide +kernel
theorem d_VF_strikeOut_50 : decode b_VF_strikeOut 50 = .ok (.goto (-46), 3) := by decide +kernel
theorem d_VF_strikeOut_53 : decode b_VF_strikeOut 53 = .ok (.iload_n 1, 1) := by decide +kernel
theorem d_VF_strikeOut_54 : decode b_VF_strikeOut 54 = .ok (.ireturn, 1) := by decide +kernel
theorem d_VF_convictedBy_0 : decode b_VF_convictedBy 0 = .ok (.aload_n 1, 1) := by decide +kernel
theorem d_VF_convictedBy_1 : decode b_VF_convictedBy 1 = .ok (.aload_n 0, 1) := by decide +kernel
theorem d_VF_convictedBy_2 : decode b_VF_convictedBy 2 = .ok (.getfield 21, 3) := by decide +kernel
theorem d_VF_convictedBy_5 : decode b_VF_convictedBy 5 = .ok (.invokevirtual 145, 3) := by decide +kernel
theorem d_VF_convictedBy_8 : decode b_VF_convictedBy 8 = .ok (.iconst 1, 1) := by decide +kernel
theorem d_VF_convictedBy_9 : decode b_VF_convictedBy 9 = .ok (.iadd, 1) := by decide +kernel
theorem d_VF_convictedBy_10 : decode b_VF_convictedBy 10 = .ok (.istore_n 2, 1) := by decide +kernel
theorem d_VF_convictedBy_11 : decode b_VF_convictedBy 11 = .ok (.iconst 0, 1) := by decide +kernel
theorem d_VF_convictedBy_12 : decode b_VF_convictedBy 12 = .ok (.istore_n 3, 1) := by decide +kernel
theorem d_VF_convictedBy_13 : decode b_VF_convictedBy 13 = .ok (.iconst 0, 1) := by decide +kernel
theorem d_VF_convictedBy_14 : decode b_VF_convictedBy 14 = .ok (.istore 4, 2) := by decide +kernel
theorem d_VF_convictedBy_16 : decode b_VF_convictedBy 16 = .ok (.iload 4, 2) := by decide +kernel
theorem d_VF_convictedBy_18 : decode b_VF_convictedBy 18 = .ok (.aload_n 0, 1) := by decide +kernel
theorem d_VF_convictedBy_19 : decode b_VF_convictedBy 19 = .ok (.getfield 13, 3) := by decide +kernel
theorem d_VF_convictedBy_22 : decode b_VF_convictedBy 22 = .ok (.if_icmp .ge 47, 3) := by decide +kernel
theorem d_VF_convictedBy_25 : decode b_VF_convictedBy 25 = .ok (.iload 4, 2) := by decide +kernel
theorem d_VF_convictedBy_27 : decode b_VF_convictedBy 27 = .ok (.aload_n 1, 1) := by decide +kernel
theorem d_VF_convictedBy_28 : decode b_VF_convictedBy 28 = .ok (.getfield 236, 3) := by decide +kernel
theorem d_VF_convictedBy_31 : decode b_VF_convictedBy 31 = .ok (.if_icmp .eq 32, 3) := by decide +kernel
theorem d_VF_convictedBy_34 : decode b_VF_convictedBy 34 = .ok (.aload_n 1, 1) := by decide +kernel
theorem d_VF_convictedBy_35 : decode b_VF_convictedBy 35 = .ok (.getfield 142, 3) := by decide +kernel
theorem d_VF_convictedBy_38 : decode b_VF_convictedBy 38 = .ok (.iload 4, 2) := by decide +kernel
theorem d_VF_convictedBy_40 : decode b_VF_convictedBy 40 = .ok (.invokestatic 239, 3) := by decide +kernel
theorem d_VF_convictedBy_43 : decode b_VF_convictedBy 43 = .ok (.ifCond .eq 20, 3) := by decide +kernel
theorem d_VF_convictedBy_46 : decode b_VF_convictedBy 46 = .ok (.aload_n 1, 1) := by decide +kernel
theorem d_VF_convictedBy_47 : decode b_VF_convictedBy 47 = .ok (.iload 4, 2) := by decide +kernel
theorem d_VF_convictedBy_49 : decode b_VF_convictedBy 49 = .ok (.invokevirtual 253, 3) := by decide +kernel
theorem d_VF_convictedBy_52 : decode b_VF_convictedBy 52 = .ok (.iload_n 2, 1) := by decide +kernel
theorem d_VF_convictedBy_53 : decode b_VF_convictedBy 53 = .ok (.if_icmp .lt 10, 3) := by decide +kernel
theorem d_VF_convictedBy_56 : decode b_VF_convictedBy 56 = .ok (.iload_n 3, 1) := by decide +kernel
theorem d_VF_convictedBy_57 : decode b_VF_convictedBy 57 = .ok (.iconst 1, 1) := by decide +kernel
theorem d_VF_convictedBy_58 : decode b_VF_convictedBy 58 = .ok (.iload 4, 2) := by decide +kernel
theorem d_VF_convictedBy_60 : decode b_VF_convictedBy 60 = .ok (.ishl, 1) := by decide +kernel
theorem d_VF_convictedBy_61 : decode b_VF_convictedBy 61 = .ok (.ior, 1) := by decide +kernel
theorem d_VF_convictedBy_62 : decode b_VF_convictedBy 62 = .ok (.istore_n 3, 1) := by decide +kernel
theorem d_VF_convictedBy_63 : decode b_VF_convictedBy 63 = .ok (.iinc 4 1, 3) := by decide +kernel
theorem d_VF_convictedBy_66 : decode b_VF_convictedBy 66 = .ok (.goto (-50), 3) := by decide +kernel
theorem d_VF_convictedBy_69 : decode b_VF_convictedBy 69 = .ok (.iload_n 3, 1) := by decide +kernel
theorem d_VF_convictedBy_70 : decode b_VF_convictedBy 70 = .ok (.ireturn, 1) := by decide +kernel
theorem d_VF_correctClocks_0 : decode b_VF_correctClocks 0 = .ok (.iconst 0, 1) := by decide +kernel
theorem d_VF_correctClocks_1 : decode b_VF_correctClocks 1 = .ok (.istore_n 1, 1) := by decide +kernel
theorem d_VF_correctClocks_2 : decode b_VF_correctClocks 2 = .ok (.iload_n 1, 1) := by decide +kernel
theorem d_VF_correctClocks_3 : decode b_VF_correctClocks 3 = .ok (.aload_n 0, 1) := by decide +kernel
theorem d_VF_correctClocks_4 : decode b_VF_correctClocks 4 = .ok (.getfield 13, 3) := by decide +kernel
theorem d_VF_correctClocks_7 : decode b_VF_correctClocks 7 = .ok (.if_icmp .ge 28, 3) := by decide +kernel
theorem d_VF_correctClocks_10 : decode b_VF_correctClocks 10 = .ok (.aload_n 0, 1) := by decide +kernel
theorem d_VF_correctClocks_11 : decode b_VF_correctClocks 11 = .ok (.getfield 31, 3) := by decide +kernel
theorem d_VF_correctClocks_14 : decode b_VF_correctClocks 14 = .ok (.iload_n 1, 1) := by decide +kernel
theorem d_VF_correctClocks_15 : decode b_VF_correctClocks 15 = .ok (.aaload, 1) := by decide +kernel
theorem d_VF_correctClocks_16 : decode b_VF_correctClocks 16 = .ok (.aload_n 0, 1) := by decide +kernel
theorem d_VF_correctClocks_17 : decode b_VF_correctClocks 17 = .ok (.aload_n 0, 1) := by decide +kernel
theorem d_VF_correctClocks_18 : decode b_VF_correctClocks 18 = .ok (.getfield 31, 3) := by decide +kernel
theorem d_VF_correctClocks_21 : decode b_VF_correctClocks 21 = .ok (.iload_n 1, 1) := by decide +kernel
theorem d_VF_correctClocks_22 : decode b_VF_correctClocks 22 = .ok (.aaload, 1) := by decide +kernel
theorem d_VF_correctClocks_23 : decode b_VF_correctClocks 23 = .ok (.invokevirtual 256, 3) := by decide +kernel
theorem d_VF_correctClocks_26 : decode b_VF_correctClocks 26 = .ok (.putfield 130, 3) := by decide +kernel
theorem d_VF_correctClocks_29 : decode b_VF_correctClocks 29 = .ok (.iinc 1 1, 3) := by decide +kernel
theorem d_VF_correctClocks_32 : decode b_VF_correctClocks 32 = .ok (.goto (-30), 3) := by decide +kernel
theorem d_VF_correctClocks_35 : decode b_VF_correctClocks 35 = .ok (.iconst 0, 1) := by decide +kernel
theorem d_VF_correctClocks_36 : decode b_VF_correctClocks 36 = .ok (.istore_n 1, 1) := by decide +kernel
theorem d_VF_correctClocks_37 : decode b_VF_correctClocks 37 = .ok (.iload_n 1, 1) := by decide +kernel
theorem d_VF_correctClocks_38 : decode b_VF_correctClocks 38 = .ok (.aload_n 0, 1) := by decide +kernel
theorem d_VF_correctClocks_39 : decode b_VF_correctClocks 39 = .ok (.getfield 13, 3) := by decide +kernel
theorem d_VF_correctClocks_42 : decode b_VF_correctClocks 42 = .ok (.if_icmp .ge 42, 3) := by decide +kernel
theorem d_VF_correctClocks_45 : decode b_VF_correctClocks 45 = .ok (.aload_n 0, 1) := by decide +kernel
theorem d_VF_correctClocks_46 : decode b_VF_correctClocks 46 = .ok (.getfield 31, 3) := by decide +kernel
theorem d_VF_correctClocks_49 : decode b_VF_correctClocks 49 = .ok (.iload_n 1, 1) := by decide +kernel
theorem d_VF_correctClocks_50 : decode b_VF_correctClocks 50 = .ok (.aaload, 1) := by decide +kernel
theorem d_VF_correctClocks_51 : decode b_VF_correctClocks 51 = .ok (.dup, 1) := by decide +kernel
theorem d_VF_correctClocks_52 : decode b_VF_correctClocks 52 = .ok (.getfield 80, 3) := by decide +kernel
theorem d_VF_correctClocks_55 : decode b_VF_correctClocks 55 = .ok (.aload_n 0, 1) := by decide +kernel
theorem d_VF_correctClocks_56 : decode b_VF_correctClocks 56 = .ok (.getfield 31, 3) := by decide +kernel
theorem d_VF_correctClocks_59 : decode b_VF_correctClocks 59 = .ok (.iload_n 1, 1) := by decide +kernel
theorem d_VF_correctClocks_60 : decode b_VF_correctClocks 60 = .ok (.aaload, 1) := by decide +kernel
theorem d_VF_correctClocks_61 : decode b_VF_correctClocks 61 = .ok (.getfield 130, 3) := by decide +kernel
theorem d_VF_correctClocks_64 : decode b_VF_correctClocks 64 = .ok (.aload_n 0, 1) := by decide +kernel
theorem d_VF_correctClocks_65 : decode b_VF_correctClocks 65 = .ok (.getfield 31, 3) := by decide +kernel
theorem d_VF_correctClocks_68 : decode b_VF_correctClocks 68 = .ok (.iload_n 1, 1) := by decide +kernel
theorem d_VF_correctClocks_69 : decode b_VF_correctClocks 69 = .ok (.aaload, 1) := by decide +kernel
theorem d_VF_correctClocks_70 : decode b_VF_correctClocks 70 = .ok (.getfield 85, 3) := by decide +kernel
theorem d_VF_correctClocks_73 : decode b_VF_correctClocks 73 = .ok (.iadd, 1) := by decide +kernel
theorem d_VF_correctClocks_74 : decode b_VF_correctClocks 74 = .ok (.iadd, 1) := by decide +kernel
theorem d_VF_correctClocks_75 : decode b_VF_correctClocks 75 = .ok (.putfield 80, 3) := by decide +kernel
theorem d_VF_correctClocks_78 : decode b_VF_correctClocks 78 = .ok (.iinc 1 1, 3) := by decide +kernel
theorem d_VF_correctClocks_81 : decode b_VF_correctClocks 81 = .ok (.goto (-44), 3) := by decide +kernel
theorem d_VF_correctClocks_84 : decode b_VF_correctClocks 84 = .ok (.return_, 1) := by decide +kernel
theorem d_VF_correctionFor_0 : decode b_VF_correctionFor 0 = .ok (.iconst 0, 1) := by decide +kernel
theorem d_VF_correctionFor_1 : decode b_VF_correctionFor 1 = .ok (.istore_n 2, 1) := by decide +kernel
theorem d_VF_correctionFor_2 : decode b_VF_correctionFor 2 = .ok (.iconst 0, 1) := by decide +kernel
theorem d_VF_correctionFor_3 : decode b_VF_correctionFor 3 = .ok (.istore_n 3, 1) := by decide +kernel
theorem d_VF_correctionFor_4 : decode b_VF_correctionFor 4 = .ok (.iload_n 3, 1) := by decide +kernel
theorem d_VF_correctionFor_5 : decode b_VF_correctionFor 5 = .ok (.aload_n 0, 1) := by decide +kernel
theorem d_VF_correctionFor_6 : decode b_VF_correctionFor 6 = .ok (.getfield 13, 3) := by decide +kernel
theorem d_VF_correctionFor_9 : decode b_VF_correctionFor 9 = .ok (.if_icmp .ge 76, 3) := by decide +kernel
theorem d_VF_correctionFor_12 : decode b_VF_correctionFor 12 = .ok (.iload_n 3, 1) := by decide +kernel
theorem d_VF_correctionFor_13 : decode b_VF_correctionFor 13 = .ok (.aload_n 1, 1) := by decide +kernel
theorem d_VF_correctionFor_14 : decode b_VF_correctionFor 14 = .ok (.getfield 236, 3) := by decide +kernel
theorem d_VF_correctionFor_17 : decode b_VF_correctionFor 17 = .ok (.if_icmp .eq 62, 3) := by decide +kernel
theorem d_VF_correctionFor_20 : decode b_VF_correctionFor 20 = .ok (.aload_n 1, 1) := by decide +kernel
theorem d_VF_correctionFor_21 : decode b_VF_correctionFor 21 = .ok (.getfield 142, 3) := by decide +kernel
theorem d_VF_correctionFor_24 : decode b_VF_correctionFor 24 = .ok (.iload_n 3, 1) := by decide +kernel
theorem d_VF_correctionFor_25 : decode b_VF_correctionFor 25 = .ok (.invokestatic 239, 3) := by decide +kernel
theorem d_VF_correctionFor_28 : decode b_VF_correctionFor 28 = .ok (.ifCond .eq 51, 3) := by decide +kernel
theorem d_VF_correctionFor_31 : decode b_VF_correctionFor 31 = .ok (.aload_n 0, 1) := by decide +kernel
theorem d_VF_correctionFor_32 : decode b_VF_correctionFor 32 = .ok (.getfield 31, 3) := by decide +kernel
theorem d_VF_correctionFor_35 : decode b_VF_correctionFor 35 = .ok (.iload_n 3, 1) := by decide +kernel
theorem d_VF_correctionFor_36 : decode b_VF_correctionFor 36 = .ok (.aaload, 1) := by decide +kernel
theorem d_VF_correctionFor_37 : decode b_VF_correctionFor 37 = .ok (.getfield 97, 3) := by decide +kernel
theorem d_VF_correctionFor_40 : decode b_VF_correctionFor 40 = .ok (.iconst 1, 1) := by decide +kernel
theorem d_VF_correctionFor_41 : decode b_VF_correctionFor 41 = .ok (.if_icmp .eq 38, 3) := by decide +kernel
theorem d_VF_correctionFor_44 : decode b_VF_correctionFor 44 = .ok (.aload_n 1, 1) := by decide +kernel
theorem d_VF_correctionFor_45 : decode b_VF_correctionFor 45 = .ok (.aload_n 0, 1) := by decide +kernel
theorem d_VF_correctionFor_46 : decode b_VF_correctionFor 46 = .ok (.getfield 31, 3) := by decide +kernel
theorem d_VF_correctionFor_49 : decode b_VF_correctionFor 49 = .ok (.iload_n 3, 1) := by decide +kernel
theorem d_VF_correctionFor_50 : decode b_VF_correctionFor 50 = .ok (.aaload, 1) := by decide +kernel
theorem d_VF_correctionFor_51 : decode b_VF_correctionFor 51 = .ok (.invokevirtual 259, 3) := by decide +kernel
theorem d_VF_correctionFor_54 : decode b_VF_correctionFor 54 = .ok (.istore 4, 2) := by decide +kernel
theorem d_VF_correctionFor_56 : decode b_VF_correctionFor 56 = .ok (.iload_n 2, 1) := by decide +kernel
theorem d_VF_correctionFor_57 : decode b_VF_correctionFor 57 = .ok (.iload 4, 2) := by decide +kernel
theorem d_VF_correctionFor_59 : decode b_VF_correctionFor 59 = .ok (.aload_n 0, 1) := by decide +kernel
theorem d_VF_correctionFor_60 : decode b_VF_correctionFor 60 = .ok (.getfield 24, 3) := by decide +kernel
theorem d_VF_correctionFor_63 : decode b_VF_correctionFor 63 = .ok (.iconst 3, 1) := by decide +kernel
theorem d_VF_correctionFor_64 : decode b_VF_correctionFor 64 = .ok (.iadd, 1) := by decide +kernel
theorem d_VF_correctionFor_65 : decode b_VF_correctionFor 65 = .ok (.invokestatic 76, 3) := by decide +kernel
theorem d_VF_correctionFor_68 : decode b_VF_correctionFor 68 = .ok (.ifCond .eq 8, 3) := by decide +kernel
theorem d_VF_correctionFor_71 : decode b_VF_correctionFor 71 = .ok (.iload 4, 2) := by decide +kernel
theorem d_VF_correctionFor_73 : decode b_VF_correctionFor 73 = .ok (.goto 4, 3) := by decide +kernel
theorem d_VF_correctionFor_76 : decode b_VF_correctionFor 76 = .ok (.iconst 0, 1) := by decide +kernel
theorem d_VF_correctionFor_77 : decode b_VF_correctionFor 77 = .ok (.iadd, 1) := by decide +kernel
theorem d_VF_correctionFor_78 : decode b_VF_correctionFor 78 = .ok (.istore_n 2, 1) := by decide +kernel
theorem d_VF_correctionFor_79 : decode b_VF_correctionFor 79 = .ok (.iinc 3 1, 3) := by decide +kernel
theorem d_VF_correctionFor_82 : decode b_VF_correctionFor 82 = .ok (.goto (-78), 3) := by decide +kernel
theorem d_VF_correctionFor_85 : decode b_VF_correctionFor 85 = .ok (.aload_n 1, 1) := by decide +kernel
theorem d_VF_correctionFor_86 : decode b_VF_correctionFor 86 = .ok (.invokevirtual 225, 3) := by decide +kernel
theorem d_VF_correctionFor_89 : decode b_VF_correctionFor 89 = .ok (.istore_n 3, 1) := by decide +kernel
theorem d_VF_correctionFor_90 : decode b_VF_correctionFor 90 = .ok (.iload_n 3, 1) := by decide +kernel
theorem d_VF_correctionFor_91 : decode b_VF_correctionFor 91 = .ok (.ifCond .ne 7, 3) := by decide +kernel
theorem d_VF_correctionFor_94 : decode b_VF_correctionFor 94 = .ok (.iconst 0, 1) := by decide +kernel
theorem d_VF_correctionFor_95 : decode b_VF_correctionFor 95 = .ok (.goto 8, 3) := by decide +kernel
theorem d_VF_correctionFor_98 : decode b_VF_correctionFor 98 = .ok (.iload_n 2, 1) := by decide +kernel
theorem d_VF_correctionFor_99 : decode b_VF_correctionFor 99 = .ok (.iload_n 3, 1) := by decide +kernel
theorem d_VF_correctionFor_100 : decode b_VF_correctionFor 100 = .ok (.invokestatic 262, 3) := by decide +kernel
theorem d_VF_correctionFor_103 : decode b_VF_correctionFor 103 = .ok (.ireturn, 1) := by decide +kernel
theorem d_VF_frame_0 : decode b_VF_frame 0 = .ok (.aload_n 0, 1) := by decide +kernel
theorem d_VF_frame_1 : decode b_VF_frame 1 = .ok (.getfield 127, 3) := by decide +kernel
theorem d_VF_frame_4 : decode b_VF_frame 4 = .ok (.ireturn, 1) := by decide +kernel
theorem d_VF_reading_0 : decode b_VF_reading 0 = .ok (.aload_n 0, 1) := by decide +kernel
theorem d_VF_reading_1 : decode b_VF_reading 1 = .ok (.iload_n 1, 1) := by decide +kernel
theorem d_VF_reading_2 : decode b_VF_reading 2 = .ok (.invokevirtual 72, 3) := by decide +kernel
theorem d_VF_reading_5 : decode b_VF_reading 5 = .ok (.ifCond .eq 15, 3) := by decide +kernel
theorem d_VF_reading_8 : decode b_VF_reading 8 = .ok (.aload_n 0, 1) := by decide +kernel
theorem d_VF_reading_9 : decode b_VF_reading 9 = .ok (.getfield 31, 3) := by decide +kernel
theorem d_VF_reading_12 : decode b_VF_reading 12 = .ok (.iload_n 1, 1) := by decide +kernel
theorem d_VF_reading_13 : decode b_VF_reading 13 = .ok (.aaload, 1) := by decide +kernel
theorem d_VF_reading_14 : decode b_VF_reading 14 = .ok (.getfield 80, 3) := by decide +kernel
theorem d_VF_reading_17 : decode b_VF_reading 17 = .ok (.goto 4, 3) := by decide +kernel
theorem d_VF_reading_20 : decode b_VF_reading 20 = .ok (.iconst 0, 1) := by decide +kernel
theorem d_VF_reading_21 : decode b_VF_reading 21 = .ok (.ireturn, 1) := by decide +kernel
theorem d_VF_correction_0 : decode b_VF_correction 0 = .ok (.aload_n 0, 1) := by decide +kernel
theorem d_VF_correction_1 : decode b_VF_correction 1 = .ok (.iload_n 1, 1) := by decide +kernel
theorem d_VF_correction_2 : decode b_VF_correction 2 = .ok (.invokevirtual 72, 3) := by decide +kernel
theorem d_VF_correction_5 : decode b_VF_correction 5 = .ok (.ifCond .eq 15, 3) := by decide +kernel
theorem d_VF_correction_8 : decode b_VF_correction 8 = .ok (.aload_n 0, 1) := by decide +kernel
theorem d_VF_correction_9 : decode b_VF_correction 9 = .ok (.getfield 31, 3) := by decide +kernel
theorem d_VF_correction_12 : decode b_VF_correction 12 = .ok (.iload_n 1, 1) := by decide +kernel
theorem d_VF_correction_13 : decode b_VF_correction 13 = .ok (.aaload, 1) := by decide +kernel
theorem d_VF_correction_14 : decode b_VF_correction 14 = .ok (.getfield 130, 3) := by decide +kernel
theorem d_VF_correction_17 : decode b_VF_correction 17 = .ok (.goto 4, 3) := by decide +kernel
theorem d_VF_correction_20 : decode b_VF_correction 20 = .ok (.iconst 0, 1) := by decide +kernel
theorem d_VF_correction_21 : decode b_VF_correction 21 = .ok (.ireturn, 1) := by decide +kernel
theorem d_VF_input_0 : decode b_VF_input 0 = .ok (.aload_n 0, 1) := by decide +kernel
theorem d_VF_input_1 : decode b_VF_input 1 = .ok (.iload_n 1, 1) := by decide +kernel
theorem d_VF_input_2 : decode b_VF_input 2 = .ok (.invokevirtual 72, 3) := by decide +kernel
theorem d_VF_input_5 : decode b_VF_input 5 = .ok (.ifCond .eq 25, 3) := by decide +kernel
theorem d_VF_input_8 : decode b_VF_input 8 = .ok (.aload_n 0, 1) := by decide +kernel
theorem d_VF_input_9 : decode b_VF_input 9 = .ok (.iload_n 2, 1) := by decide +kernel
theorem d_VF_input_10 : decode b_VF_input 10 = .ok (.invokevirtual 72, 3) := by decide +kernel
theorem d_VF_input_13 : decode b_VF_input 13 = .ok (.ifCond .eq 17, 3) := by decide +kernel
theorem d_VF_input_16 : decode b_VF_input 16 = .ok (.aload_n 0, 1) := by decide +kernel
theorem d_VF_input_17 : decode b_VF_input 17 = .ok (.getfield 31, 3) := by decide +kernel
theorem d_VF_input_20 : decode b_VF_input 20 = .ok (.iload_n 1, 1) := by decide +kernel
theorem d_VF_input_21 : decode b_VF_input 21 = .ok (.aaload, 1) := by decide +kernel
theorem d_VF_input_22 : decode b_VF_input 22 = .ok (.getfield 133, 3) := by decide +kernel
theorem d_VF_input_25 : decode b_VF_input 25 = .ok (.iload_n 2, 1) := by decide +kernel
theorem d_VF_input_26 : decode b_VF_input 26 = .ok (.iaload, 1) := by decide +kernel
theorem d_VF_input_27 : decode b_VF_input 27 = .ok (.goto 4, 3) := by decide +kernel
theorem d_VF_input_30 : decode b_VF_input 30 = .ok (.iconst 0, 1) := by decide +kernel
theorem d_VF_input_31 : decode b_VF_input 31 = .ok (.ireturn, 1) := by decide +kernel
theorem d_VF_charge_0 : decode b_VF_charge 0 = .ok (.aload_n 0, 1) := by decide +kernel
theorem d_VF_charge_1 : decode b_VF_charge 1 = .ok (.iload_n 1, 1) := by decide +kernel
theorem d_VF_charge_2 : decode b_VF_charge 2 = .ok (.invokevirtual 72, 3) := by decide +kernel
theorem d_VF_charge_5 : decode b_VF_charge 5 = .ok (.ifCond .eq 25, 3) := by decide +kernel
theorem d_VF_charge_8 : decode b_VF_charge 8 = .ok (.aload_n 0, 1) := by decide +kernel
theorem d_VF_charge_9 : decode b_VF_charge 9 = .ok (.iload_n 2, 1) := by decide +kernel
theorem d_VF_charge_10 : decode b_VF_charge 10 = .ok (.invokevirtual 72, 3) := by decide +kernel
theorem d_VF_charge_13 : decode b_VF_charge 13 = .ok (.ifCond .eq 17, 3) := by decide +kernel
theorem d_VF_charge_16 : decode b_VF_charge 16 = .ok (.aload_n 0, 1) := by decide +kernel
theorem d_VF_charge_17 : decode b_VF_charge 17 = .ok (.getfield 31, 3) := by decide +kernel
theorem d_VF_charge_20 : decode b_VF_charge 20 = .ok (.iload_n 1, 1) := by decide +kernel
theorem d_VF_charge_21 : decode b_VF_charge 21 = .ok (.aaload, 1) := by decide +kernel
theorem d_VF_charge_22 : decode b_VF_charge 22 = .ok (.getfield 136, 3) := by decide +kernel
theorem d_VF_charge_25 : decode b_VF_charge 25 = .ok (.iload_n 2, 1) := by decide +kernel
theorem d_VF_charge_26 : decode b_VF_charge 26 = .ok (.iaload, 1) := by decide +kernel
theorem d_VF_charge_27 : decode b_VF_charge 27 = .ok (.goto 4, 3) := by decide +kernel
theorem d_VF_charge_30 : decode b_VF_charge 30 = .ok (.iconst 0, 1) := by decide +kernel
theorem d_VF_charge_31 : decode b_VF_charge 31 = .ok (.ireturn, 1) := by decide +kernel
theorem d_VF_word_0 : decode b_VF_word 0 = .ok (.aload_n 0, 1) := by decide +kernel
theorem d_VF_word_1 : decode b_VF_word 1 = .ok (.iload_n 1, 1) := by decide +kernel
theorem d_VF_word_2 : decode b_VF_word 2 = .ok (.invokevirtual 72, 3) := by decide +kernel
theorem d_VF_word_5 : decode b_VF_word 5 = .ok (.ifCond .eq 24, 3) := by decide +kernel
theorem d_VF_word_8 : decode b_VF_word 8 = .ok (.iload_n 2, 1) := by decide +kernel
theorem d_VF_word_9 : decode b_VF_word 9 = .ok (.invokestatic 103, 3) := by decide +kernel
theorem d_VF_word_12 : decode b_VF_word 12 = .ok (.ifCond .eq 17, 3) := by decide +kernel
theorem d_VF_word_15 : decode b_VF_word 15 = .ok (.aload_n 0, 1) := by decide +kernel
theorem d_VF_word_16 : decode b_VF_word 16 = .ok (.getfield 31, 3) := by decide +kernel
theorem d_VF_word_19 : decode b_VF_word 19 = .ok (.iload_n 1, 1) := by decide +kernel
theorem d_VF_word_20 : decode b_VF_word 20 = .ok (.aaload, 1) := by decide +kernel
theorem d_VF_word_21 : decode b_VF_word 21 = .ok (.getfield 139, 3) := by decide +kernel
theorem d_VF_word_24 : decode b_VF_word 24 = .ok (.iload_n 2, 1) := by decide +kernel
theorem d_VF_word_25 : decode b_VF_word 25 = .ok (.iaload, 1) := by decide +kernel
theorem d_VF_word_26 : decode b_VF_word 26 = .ok (.goto 4, 3) := by decide +kernel
theorem d_VF_word_29 : decode b_VF_word 29 = .ok (.iconst 0, 1) := by decide +kernel
theorem d_VF_word_30 : decode b_VF_word 30 = .ok (.ireturn, 1) := by decide +kernel
theorem d_VF_members_0 : decode b_VF_members 0 = .ok (.aload_n 0, 1) := by decide +kernel
theorem d_VF_members_1 : decode b_VF_members 1 = .ok (.iload_n 1, 1) := by decide +kernel
theorem d_VF_members_2 : decode b_VF_members 2 = .ok (.invokevirtual 72, 3) := by decide +kernel
theorem d_VF_members_5 : decode b_VF_members 5 = .ok (.ifCond .eq 15, 3) := by decide +kernel
theorem d_VF_members_8 : decode b_VF_members 8 = .ok (.aload_n 0, 1) := by decide +kernel
theorem d_VF_members_9 : decode b_VF_members 9 = .ok (.getfield 31, 3) := by decide +kernel
theorem d_VF_members_12 : decode b_VF_members 12 = .ok (.iload_n 1, 1) := by decide +kernel
theorem d_VF_members_13 : decode b_VF_members 13 = .ok (.aaload, 1) := by decide +kernel
theorem d_VF_members_14 : decode b_VF_members 14 = .ok (.getfield 142, 3) := by decide +kernel
theorem d_VF_members_17 : decode b_VF_members 17 = .ok (.goto 4, 3) := by decide +kernel
theorem d_VF_members_20 : decode b_VF_members 20 = .ok (.iconst 0, 1) := by decide +kernel
theorem d_VF_members_21 : decode b_VF_members 21 = .ok (.ireturn, 1) := by decide +kernel
theorem d_VF_bears_0 : decode b_VF_bears 0 = .ok (.aload_n 0, 1) := by decide +kernel
theorem d_VF_bears_1 : decode b_VF_bears 1 = .ok (.iload_n 1, 1) := by decide +kernel
theorem d_VF_bears_2 : decode b_VF_bears 2 = .ok (.invokevirtual 72, 3) := by decide +kernel
theorem d_VF_bears_5 : decode b_VF_bears 5 = .ok (.ifCond .eq 19, 3) := by decide +kernel
theorem d_VF_bears_8 : decode b_VF_bears 8 = .ok (.aload_n 0, 1) := by decide +kernel
theorem d_VF_bears_9 : decode b_VF_bears 9 = .ok (.getfield 31, 3) := by decide +kernel
theorem d_VF_bears_12 : decode b_VF_bears 12 = .ok (.iload_n 1, 1) := by decide +kernel
theorem d_VF_bears_13 : decode b_VF_bears 13 = .ok (.aaload, 1) := by decide +kernel
theorem d_VF_bears_14 : decode b_VF_bears 14 = .ok (.aload_n 0, 1) := by decide +kernel
theorem d_VF_bears_15 : decode b_VF_bears 15 = .ok (.getfield 21, 3) := by decide +kernel
theorem d_VF_bears_18 : decode b_VF_bears 18 = .ok (.invokevirtual 145, 3) := by decide +kernel
theorem d_VF_bears_21 : decode b_VF_bears 21 = .ok (.goto 4, 3) := by decide +kernel
theorem d_VF_bears_24 : decode b_VF_bears 24 = .ok (.iconst 0, 1) := by decide +kernel
theorem d_VF_bears_25 : decode b_VF_bears 25 = .ok (.ireturn, 1) := by decide +kernel
theorem d_VF_accused_0 : decode b_VF_accused 0 = .ok (.aload_n 0, 1) := by decide +kernel
theorem d_VF_accused_1 : decode b_VF_accused 1 = .ok (.iload_n 1, 1) := by decide +kernel
theorem d_VF_accused_2 : decode b_VF_accused 2 = .ok (.invokevirtual 72, 3) := by decide +kernel
theorem d_VF_accused_5 : decode b_VF_accused 5 = .ok (.ifCond .eq 15, 3) := by decide +kernel
theorem d_VF_accused_8 : decode b_VF_accused 8 = .ok (.aload_n 0, 1) := by decide +kernel
theorem d_VF_accused_9 : decode b_VF_accused 9 = .ok (.getfield 31, 3) := by decide +kernel
theorem d_VF_accused_12 : decode b_VF_accused 12 = .ok (.iload_n 1, 1) := by decide +kernel
theorem d_VF_accused_13 : decode b_VF_accused 13 = .ok (.aaload, 1) := by decide +kernel
theorem d_VF_accused_14 : decode b_VF_accused 14 = .ok (.getfield 149, 3) := by decide +kernel
theorem d_VF_accused_17 : decode b_VF_accused 17 = .ok (.goto 4, 3) := by decide +kernel
theorem d_VF_accused_20 : decode b_VF_accused 20 = .ok (.iconst 0, 1) := by decide +kernel
theorem d_VF_accused_21 : decode b_VF_accused 21 = .ok (.ireturn, 1) := by decide +kernel
theorem d_VF_spread_0 : decode b_VF_spread 0 = .ok (.aload_n 0, 1) := by decide +kernel
theorem d_VF_spread_1 : decode b_VF_spread 1 = .ok (.invokevirtual 152, 3) := by decide +kernel
theorem d_VF_spread_4 : decode b_VF_spread 4 = .ok (.istore_n 1, 1) := by decide +kernel
theorem d_VF_spread_5 : decode b_VF_spread 5 = .ok (.iload_n 1, 1) := by decide +kernel
theorem d_VF_spread_6 : decode b_VF_spread 6 = .ok (.ifCond .ge 5, 3) := by decide +kernel
theorem d_VF_spread_9 : decode b_VF_spread 9 = .ok (.iconst 0, 1) := by decide +kernel
theorem d_VF_spread_10 : decode b_VF_spread 10 = .ok (.ireturn, 1) := by decide +kernel
theorem d_VF_spread_11 : decode b_VF_spread 11 = .ok (.aload_n 0, 1) := by decide +kernel
theorem d_VF_spread_12 : decode b_VF_spread 12 = .ok (.getfield 31, 3) := by decide +kernel
theorem d_VF_spread_15 : decode b_VF_spread 15 = .ok (.iload_n 1, 1) := by decide +kernel
theorem d_VF_spread_16 : decode b_VF_spread 16 = .ok (.aaload, 1) := by decide +kernel
theorem d_VF_spread_17 : decode b_VF_spread 17 = .ok (.getfield 80, 3) := by decide +kernel
theorem d_VF_spread_20 : decode b_VF_spread 20 = .ok (.istore_n 2, 1) := by decide +kernel
theorem d_VF_spread_21 : decode b_VF_spread 21 = .ok (.iload_n 2, 1) := by decide +kernel
theorem d_VF_spread_22 : decode b_VF_spread 22 = .ok (.istore_n 3, 1) := by decide +kernel
theorem d_VF_spread_23 : decode b_VF_spread 23 = .ok (.iload_n 1, 1) := by decide +kernel
theorem d_VF_spread_24 : decode b_VF_spread 24 = .ok (.iconst 1, 1) := by decide +kernel
theorem d_VF_spread_25 : decode b_VF_spread 25 = .ok (.iadd, 1) := by decide +kernel
theorem d_VF_spread_26 : decode b_VF_spread 26 = .ok (.istore 4, 2) := by decide +kernel
theorem d_VF_spread_28 : decode b_VF_spread 28 = .ok (.iload 4, 2) := by decide +kernel
theorem d_VF_spread_30 : decode b_VF_spread 30 = .ok (.aload_n 0, 1) := by decide +kernel
theorem d_VF_spread_31 : decode b_VF_spread 31 = .ok (.getfield 13, 3) := by decide +kernel
theorem d_VF_spread_34 : decode b_VF_spread 34 = .ok (.if_icmp .ge 52, 3) := by decide +kernel
theorem d_VF_spread_37 : decode b_VF_spread 37 = .ok (.aload_n 0, 1) := by decide +kernel
theorem d_VF_spread_38 : decode b_VF_spread 38 = .ok (.getfield 31, 3) := by decide +kernel
theorem d_VF_spread_41 : decode b_VF_spread 41 = .ok (.iload 4, 2) := by decide +kernel
theorem d_VF_spread_43 : decode b_VF_spread 43 = .ok (.aaload, 1) := by decide +kernel
theorem d_VF_spread_44 : decode b_VF_spread 44 = .ok (.getfield 97, 3) := by decide +kernel
theorem d_VF_spread_47 : decode b_VF_spread 47 = .ok (.ifCond .ne 33, 3) := by decide +kernel
theorem d_VF_spread_50 : decode b_VF_spread 50 = .ok (.iload_n 2, 1) := by decide +kernel
theorem d_VF_spread_51 : decode b_VF_spread 51 = .ok (.aload_n 0, 1) := by decide +kernel
theorem d_VF_spread_52 : decode b_VF_spread 52 = .ok (.getfield 31, 3) := by decide +kernel
theorem d_VF_spread_55 : decode b_VF_spread 55 = .ok (.iload 4, 2) := by decide +kernel
theorem d_VF_spread_57 : decode b_VF_spread 57 = .ok (.aaload, 1) := by decide +kernel
theorem d_VF_spread_58 : decode b_VF_spread 58 = .ok (.getfield 80, 3) := by decide +kernel
theorem d_VF_spread_61 : decode b_VF_spread 61 = .ok (.invokestatic 155, 3) := by decide +kernel
theorem d_VF_spread_64 : decode b_VF_spread 64 = .ok (.istore_n 2, 1) := by decide +kernel
theorem d_VF_spread_65 : decode b_VF_spread 65 = .ok (.iload_n 3, 1) := by decide +kernel
theorem d_VF_spread_66 : decode b_VF_spread 66 = .ok (.aload_n 0, 1) := by decide +kernel
theorem d_VF_spread_67 : decode b_VF_spread 67 = .ok (.getfield 31, 3) := by decide +kernel
theorem d_VF_spread_70 : decode b_VF_spread 70 = .ok (.iload 4, 2) := by decide +kernel
theorem d_VF_spread_72 : decode b_VF_spread 72 = .ok (.aaload, 1) := by decide +kernel
theorem d_VF_spread_73 : decode b_VF_spread 73 = .ok (.getfield 80, 3) := by decide +kernel
theorem d_VF_spread_76 : decode b_VF_spread 76 = .ok (.invokestatic 161, 3) := by decide +kernel
theorem d_VF_spread_79 : decode b_VF_spread 79 = .ok (.istore_n 3, 1) := by decide +kernel
theorem d_VF_spread_80 : decode b_VF_spread 80 = .ok (.iinc 4 1, 3) := by decide +kernel
theorem d_VF_spread_83 : decode b_VF_spread 83 = .ok (.goto (-55), 3) := by decide +kernel
theorem d_VF_spread_86 : decode b_VF_spread 86 = .ok (.iload_n 3, 1) := by decide +kernel
theorem d_VF_spread_87 : decode b_VF_spread 87 = .ok (.iload_n 2, 1) := by decide +kernel
theorem d_VF_spread_88 : decode b_VF_spread 88 = .ok (.isub, 1) := by decide +kernel
theorem d_VF_spread_89 : decode b_VF_spread 89 = .ok (.ireturn, 1) := by decide +kernel
theorem d_VF_alike_0 : decode b_VF_alike 0 = .ok (.aload_n 0, 1) := by decide +kernel
theorem d_VF_alike_1 : decode b_VF_alike 1 = .ok (.invokevirtual 152, 3) := by decide +kernel
theorem d_VF_alike_4 : decode b_VF_alike 4 = .ok (.istore_n 1, 1) := by decide +kernel
theorem d_VF_alike_5 : decode b_VF_alike 5 = .ok (.iload_n 1, 1) := by decide +kernel
theorem d_VF_alike_6 : decode b_VF_alike 6 = .ok (.ifCond .ge 5, 3) := by decide +kernel
theorem d_VF_alike_9 : decode b_VF_alike 9 = .ok (.iconst 1, 1) := by decide +kernel
theorem d_VF_alike_10 : decode b_VF_alike 10 = .ok (.ireturn, 1) := by decide +kernel
theorem d_VF_alike_11 : decode b_VF_alike 11 = .ok (.iload_n 1, 1) := by decide +kernel
theorem d_VF_alike_12 : decode b_VF_alike 12 = .ok (.iconst 1, 1) := by decide +kernel
theorem d_VF_alike_13 : decode b_VF_alike 13 = .ok (.iadd, 1) := by decide +kernel
theorem d_VF_alike_14 : decode b_VF_alike 14 = .ok (.istore_n 2, 1) := by decide +kernel
theorem d_VF_alike_15 : decode b_VF_alike 15 = .ok (.iload_n 2, 1) := by decide +kernel
theorem d_VF_alike_16 : decode b_VF_alike 16 = .ok (.aload_n 0, 1) := by decide +kernel
theorem d_VF_alike_17 : decode b_VF_alike 17 = .ok (.getfield 13, 3) := by decide +kernel
theorem d_VF_alike_20 : decode b_VF_alike 20 = .ok (.if_icmp .ge 41, 3) := by decide +kernel
theorem d_VF_alike_23 : decode b_VF_alike 23 = .ok (.aload_n 0, 1) := by decide +kernel
theorem d_VF_alike_24 : decode b_VF_alike 24 = .ok (.getfield 31, 3) := by decide +kernel
theorem d_VF_alike_27 : decode b_VF_alike 27 = .ok (.iload_n 2, 1) := by decide +kernel
theorem d_VF_alike_28 : decode b_VF_alike 28 = .ok (.aaload, 1) := by decide +kernel
theorem d_VF_alike_29 : decode b_VF_alike 29 = .ok (.getfield 97, 3) := by decide +kernel
theorem d_VF_alike_32 : decode b_VF_alike 32 = .ok (.ifCond .ne 23, 3) := by decide +kernel
theorem d_VF_alike_35 : decode b_VF_alike 35 = .ok (.aload_n 0, 1) := by decide +kernel
theorem d_VF_alike_36 : decode b_VF_alike 36 = .ok (.getfield 31, 3) := by decide +kernel
theorem d_VF_alike_39 : decode b_VF_alike 39 = .ok (.iload_n 2, 1) := by decide +kernel
theorem d_VF_alike_40 : decode b_VF_alike 40 = .ok (.aaload, 1) := by decide +kernel
theorem d_VF_alike_41 : decode b_VF_alike 41 = .ok (.aload_n 0, 1) := by decide +kernel
theorem d_VF_alike_42 : decode b_VF_alike 42 = .ok (.getfield 31, 3) := by decide +kernel
theorem d_VF_alike_45 : decode b_VF_alike 45 = .ok (.iload_n 1, 1) := by decide +kernel
theorem d_VF_alike_46 : decode b_VF_alike 46 = .ok (.aaload, 1) := by decide +kernel
theorem d_VF_alike_47 : decode b_VF_alike 47 = .ok (.invokevirtual 164, 3) := by decide +kernel
theorem d_VF_alike_50 : decode b_VF_alike 50 = .ok (.ifCond .ne 5, 3) := by decide +kernel
theorem d_VF_alike_53 : decode b_VF_alike 53 = .ok (.iconst 0, 1) := by decide +kernel
theorem d_VF_alike_54 : decode b_VF_alike 54 = .ok (.ireturn, 1) := by decide +kernel
theorem d_VF_alike_55 : decode b_VF_alike 55 = .ok (.iinc 2 1, 3) := by decide +kernel
theorem d_VF_alike_58 : decode b_VF_alike 58 = .ok (.goto (-43), 3) := by decide +kernel
theorem d_VF_alike_61 : decode b_VF_alike 61 = .ok (.iconst 1, 1) := by decide +kernel
theorem d_VF_alike_62 : decode b_VF_alike 62 = .ok (.ireturn, 1) := by decide +kernel
theorem d_VF_solo_0 : decode b_VF_solo 0 = .ok (.iload_n 1, 1) := by decide +kernel
theorem d_VF_solo_1 : decode b_VF_solo 1 = .ok (.invokestatic 103, 3) := by decide +kernel
theorem d_VF_solo_4 : decode b_VF_solo 4 = .ok (.ifCond .eq 12, 3) := by decide +kernel
theorem d_VF_solo_7 : decode b_VF_solo 7 = .ok (.aload_n 0, 1) := by decide +kernel
theorem d_VF_solo_8 : decode b_VF_solo 8 = .ok (.getfield 59, 3) := by decide +kernel
theorem d_VF_solo_11 : decode b_VF_solo 11 = .ok (.iload_n 1, 1) := by decide +kernel
theorem d_VF_solo_12 : decode b_VF_solo 12 = .ok (.iaload, 1) := by decide +kernel
theorem d_VF_solo_13 : decode b_VF_solo 13 = .ok (.goto 4, 3) := by decide +kernel
theorem d_VF_solo_16 : decode b_VF_solo 16 = .ok (.iconst 0, 1) := by decide +kernel
theorem d_VF_solo_17 : decode b_VF_solo 17 = .ok (.ireturn, 1) := by decide +kernel
end
section
theorem d_ND_init_0 : decode b_ND_init 0 = .ok (.aload_n 0, 1) := by decide +kernel
theorem d_ND_init_1 : decode b_ND_init 1 = .ok (.invokespecial 3, 3) := by decide +kernel
theorem d_ND_init_4 : decode b_ND_init 4 = .ok (.aload_n 0, 1) := by decide +kernel
theorem d_ND_init_5 : decode b_ND_init 5 = .ok (.iconst 4, 1) := by decide +kernel
theorem d_ND_init_6 : decode b_ND_init 6 = .ok (.newarray .int, 2) := by decide +kernel
theorem d_ND_init_8 : decode b_ND_init 8 = .ok (.putfield 9, 3) := by decide +kernel
theorem d_ND_init_11 : decode b_ND_init 11 = .ok (.aload_n 0, 1) := by decide +kernel
theorem d_ND_init_12 : decode b_ND_init 12 = .ok (.iconst 0, 1) := by decide +kernel
theorem d_ND_init_13 : decode b_ND_init 13 = .ok (.putfield 15, 3) := by decide +kernel
theorem d_ND_init_16 : decode b_ND_init 16 = .ok (.aload_n 0, 1) := by decide +kernel
theorem d_ND_init_17 : decode b_ND_init 17 = .ok (.iload_n 1, 1) := by decide +kernel
theorem d_ND_init_18 : decode b_ND_init 18 = .ok (.putfield 19, 3) := by decide +kernel
theorem d_ND_init_21 : decode b_ND_init 21 = .ok (.aload_n 0, 1) := by decide +kernel
theorem d_ND_init_22 : decode b_ND_init 22 = .ok (.iload_n 2, 1) := by decide +kernel
theorem d_ND_init_23 : decode b_ND_init 23 = .ok (.newarray .int, 2) := by decide +kernel
theorem d_ND_init_25 : decode b_ND_init 25 = .ok (.putfield 22, 3) := by decide +kernel
theorem d_ND_init_28 : decode b_ND_init 28 = .ok (.aload_n 0, 1) := by decide +kernel
theorem d_ND_init_29 : decode b_ND_init 29 = .ok (.iload_n 2, 1) := by decide +kernel
theorem d_ND_init_30 : decode b_ND_init 30 = .ok (.newarray .int, 2) := by decide +kernel
theorem d_ND_init_32 : decode b_ND_init 32 = .ok (.putfield 25, 3) := by decide +kernel
theorem d_ND_init_35 : decode b_ND_init 35 = .ok (.aload_n 0, 1) := by decide +kernel
theorem d_ND_init_36 : decode b_ND_init 36 = .ok (.iload_n 2, 1) := by decide +kernel
theorem d_ND_init_37 : decode b_ND_init 37 = .ok (.newarray .int, 2) := by decide +kernel
theorem d_ND_init_39 : decode b_ND_init 39 = .ok (.putfield 28, 3) := by decide +kernel
theorem d_ND_init_42 : decode b_ND_init 42 = .ok (.aload_n 0, 1) := by decide +kernel
theorem d_ND_init_43 : decode b_ND_init 43 = .ok (.iload_n 2, 1) := by decide +kernel
theorem d_ND_init_44 : decode b_ND_init 44 = .ok (.newarray .int, 2) := by decide +kernel
theorem d_ND_init_46 : decode b_ND_init 46 = .ok (.putfield 31, 3) := by decide +kernel
theorem d_ND_init_49 : decode b_ND_init 49 = .ok (.aload_n 0, 1) := by decide +kernel
theorem d_ND_init_50 : decode b_ND_init 50 = .ok (.iconst 1, 1) := by decide +kernel
theorem d_ND_init_51 : decode b_ND_init 51 = .ok (.iload_n 2, 1) := by decide +kernel
theorem d_ND_init_52 : decode b_ND_init 52 = .ok (.ishl, 1) := by decide +kernel
theorem d_ND_init_53 : decode b_ND_init 53 = .ok (.iconst 1, 1) := by decide +kernel
theorem d_ND_init_54 : decode b_ND_init 54 = .ok (.isub, 1) := by decide +kernel
theorem d_ND_init_55 : decode b_ND_init 55 = .ok (.putfield 34, 3) := by decide +kernel
theorem d_ND_init_58 : decode b_ND_init 58 = .ok (.return_, 1) := by decide +kernel
theorem d_RL_init_0 : decode b_RL_init 0 = .ok (.aload_n 0, 1) := by decide +kernel
theorem d_RL_init_1 : decode b_RL_init 1 = .ok (.invokespecial 1, 3) := by decide +kernel
theorem d_RL_init_4 : decode b_RL_init 4 = .ok (.aload_n 0, 1) := by decide +kernel
theorem d_RL_init_5 : decode b_RL_init 5 = .ok (.aload_n 1, 1) := by decide +kernel
theorem d_RL_init_6 : decode b_RL_init 6 = .ok (.putfield 7, 3) := by decide +kernel
theorem d_RL_init_9 : decode b_RL_init 9 = .ok (.aload_n 0, 1) := by decide +kernel
theorem d_RL_init_10 : decode b_RL_init 10 = .ok (.iload_n 2, 1) := by decide +kernel
theorem d_RL_init_11 : decode b_RL_init 11 = .ok (.putfield 13, 3) := by decide +kernel
theorem d_RL_init_14 : decode b_RL_init 14 = .ok (.iconst 1, 1) := by decide +kernel
theorem d_RL_init_15 : decode b_RL_init 15 = .ok (.istore_n 3, 1) := by decide +kernel
theorem d_RL_init_16 : decode b_RL_init 16 = .ok (.iconst 0, 1) := by decide +kernel
theorem d_RL_init_17 : decode b_RL_init 17 = .ok (.istore 4, 2) := by decide +kernel
theorem d_RL_init_19 : decode b_RL_init 19 = .ok (.iload 4, 2) := by decide +kernel
theorem d_RL_init_21 : decode b_RL_init 21 = .ok (.iload_n 2, 1) := by decide +kernel
theorem d_RL_init_22 : decode b_RL_init 22 = .ok (.if_icmp .ge 16, 3) := by decide +kernel
theorem d_RL_init_25 : decode b_RL_init 25 = .ok (.iload_n 3, 1) := by decide +kernel
theorem d_RL_init_26 : decode b_RL_init 26 = .ok (.aload_n 1, 1) := by decide +kernel
theorem d_RL_init_27 : decode b_RL_init 27 = .ok (.arraylength, 1) := by decide +kernel
theorem d_RL_init_28 : decode b_RL_init 28 = .ok (.imul, 1) := by decide +kernel
theorem d_RL_init_29 : decode b_RL_init 29 = .ok (.iconst 1, 1) := by decide +kernel
theorem d_RL_init_30 : decode b_RL_init 30 = .ok (.iadd, 1) := by decide +kernel
theorem d_RL_init_31 : decode b_RL_init 31 = .ok (.istore_n 3, 1) := by decide +kernel
theorem d_RL_init_32 : decode b_RL_init 32 = .ok (.iinc 4 1, 3) := by decide +kernel
theorem d_RL_init_35 : decode b_RL_init 35 = .ok (.goto (-16), 3) := by decide +kernel
theorem d_RL_init_38 : decode b_RL_init 38 = .ok (.aload_n 0, 1) := by decide +kernel
theorem d_RL_init_39 : decode b_RL_init 39 = .ok (.iload_n 3, 1) := by decide +kernel
theorem d_RL_init_40 : decode b_RL_init 40 = .ok (.aload_n 1, 1) := by decide +kernel
theorem d_RL_init_41 : decode b_RL_init 41 = .ok (.arraylength, 1) := by decide +kernel
theorem d_RL_init_42 : decode b_RL_init 42 = .ok (.imul, 1) := by decide +kernel
theorem d_RL_init_43 : decode b_RL_init 43 = .ok (.newarray .int, 2) := by decide +kernel
theorem d_RL_init_45 : decode b_RL_init 45 = .ok (.putfield 17, 3) := by decide +kernel
theorem d_RL_init_48 : decode b_RL_init 48 = .ok (.aload_n 0, 1) := by decide +kernel
theorem d_RL_init_49 : decode b_RL_init 49 = .ok (.iload_n 2, 1) := by decide +kernel
theorem d_RL_init_50 : decode b_RL_init 50 = .ok (.iconst 1, 1) := by decide +kernel
theorem d_RL_init_51 : decode b_RL_init 51 = .ok (.iadd, 1) := by decide +kernel
theorem d_RL_init_52 : decode b_RL_init 52 = .ok (.aload_n 1, 1) := by decide +kernel
theorem d_RL_init_53 : decode b_RL_init 53 = .ok (.arraylength, 1) := by decide +kernel
theorem d_RL_init_54 : decode b_RL_init 54 = .ok (.multianewarray 21 2, 4) := by decide +kernel
theorem d_RL_init_58 : decode b_RL_init 58 = .ok (.putfield 23, 3) := by decide +kernel
theorem d_RL_init_61 : decode b_RL_init 61 = .ok (.return_, 1) := by decide +kernel
theorem d_TK_init_0 : decode b_TK_init 0 = .ok (.aload_n 0, 1) := by decide +kernel
theorem d_TK_init_1 : decode b_TK_init 1 = .ok (.invokespecial 1, 3) := by decide +kernel
theorem d_TK_init_4 : decode b_TK_init 4 = .ok (.aload_n 0, 1) := by decide +kernel
theorem d_TK_init_5 : decode b_TK_init 5 = .ok (.bipush 12, 2) := by decide +kernel
theorem d_TK_init_7 : decode b_TK_init 7 = .ok (.newarray .int, 2) := by decide +kernel
theorem d_TK_init_9 : decode b_TK_init 9 = .ok (.putfield 9, 3) := by decide +kernel
theorem d_TK_init_12 : decode b_TK_init 12 = .ok (.aload_n 0, 1) := by decide +kernel
theorem d_TK_init_13 : decode b_TK_init 13 = .ok (.bipush 12, 2) := by decide +kernel
theorem d_TK_init_15 : decode b_TK_init 15 = .ok (.newarray .int, 2) := by decide +kernel
theorem d_TK_init_17 : decode b_TK_init 17 = .ok (.putfield 13, 3) := by decide +kernel
theorem d_TK_init_20 : decode b_TK_init 20 = .ok (.return_, 1) := by decide +kernel
theorem d_SM_init_0 : decode b_SM_init 0 = .ok (.aload_n 0, 1) := by decide +kernel
theorem d_SM_init_1 : decode b_SM_init 1 = .ok (.invokespecial 3, 3) := by decide +kernel
theorem d_SM_init_4 : decode b_SM_init 4 = .ok (.aload_n 0, 1) := by decide +kernel
theorem d_SM_init_5 : decode b_SM_init 5 = .ok (.bipush 6, 2) := by decide +kernel
theorem d_SM_init_7 : decode b_SM_init 7 = .ok (.newarray .int, 2) := by decide +kernel
theorem d_SM_init_9 : decode b_SM_init 9 = .ok (.putfield 11, 3) := by decide +kernel
theorem d_SM_init_12 : decode b_SM_init 12 = .ok (.return_, 1) := by decide +kernel
theorem d_TK_append_0 : decode b_TK_append 0 = .ok (.aload_n 0, 1) := by decide +kernel
theorem d_TK_append_1 : decode b_TK_append 1 = .ok (.getfield 16, 3) := by decide +kernel
theorem d_TK_append_4 : decode b_TK_append 4 = .ok (.bipush 12, 2) := by decide +kernel
theorem d_TK_append_6 : decode b_TK_append 6 = .ok (.if_icmp .lt 5, 3) := by decide +kernel
theorem d_TK_append_9 : decode b_TK_append 9 = .ok (.iconst 0, 1) := by decide +kernel
theorem d_TK_append_10 : decode b_TK_append 10 = .ok (.ireturn, 1) := by decide +kernel
theorem d_TK_append_11 : decode b_TK_append 11 = .ok (.aload_n 0, 1) := by decide +kernel
theorem d_TK_append_12 : decode b_TK_append 12 = .ok (.getfield 9, 3) := by decide +kernel
theorem d_TK_append_15 : decode b_TK_append 15 = .ok (.aload_n 0, 1) := by decide +kernel
theorem d_TK_append_16 : decode b_TK_append 16 = .ok (.getfield 16, 3) := by decide +kernel
theorem d_TK_append_19 : decode b_TK_append 19 = .ok (.iload_n 1, 1) := by decide +kernel
theorem d_TK_append_20 : decode b_TK_append 20 = .ok (.iastore, 1) := by decide +kernel
theorem d_TK_append_21 : decode b_TK_append 21 = .ok (.aload_n 0, 1) := by decide +kernel
theorem d_TK_append_22 : decode b_TK_append 22 = .ok (.getfield 13, 3) := by decide +kernel
theorem d_TK_append_25 : decode b_TK_append 25 = .ok (.aload_n 0, 1) := by decide +kernel
theorem d_TK_append_26 : decode b_TK_append 26 = .ok (.getfield 16, 3) := by decide +kernel
theorem d_TK_append_29 : decode b_TK_append 29 = .ok (.iload_n 2, 1) := by decide +kernel
theorem d_TK_append_30 : decode b_TK_append 30 = .ok (.iastore, 1) := by decide +kernel
theorem d_TK_append_31 : decode b_TK_append 31 = .ok (.aload_n 0, 1) := by decide +kernel
theorem d_TK_append_32 : decode b_TK_append 32 = .ok (.dup, 1) := by decide +kernel
theorem d_TK_append_33 : decode b_TK_append 33 = .ok (.getfield 16, 3) := by decide +kernel
theorem d_TK_append_36 : decode b_TK_append 36 = .ok (.iconst 1, 1) := by decide +kernel
theorem d_TK_append_37 : decode b_TK_append 37 = .ok (.iadd, 1) := by decide +kernel
theorem d_TK_append_38 : decode b_TK_append 38 = .ok (.putfield 16, 3) := by decide +kernel
theorem d_TK_append_41 : decode b_TK_append 41 = .ok (.iconst 1, 1) := by decide +kernel
theorem d_TK_append_42 : decode b_TK_append 42 = .ok (.ireturn, 1) := by decide +kernel
theorem d_TK_empty_0 : decode b_TK_empty 0 = .ok (.aload_n 0, 1) := by decide +kernel
theorem d_TK_empty_1 : decode b_TK_empty 1 = .ok (.getfield 16, 3) := by decide +kernel
theorem d_TK_empty_4 : decode b_TK_empty 4 = .ok (.istore_n 1, 1) := by decide +kernel
theorem d_TK_empty_5 : decode b_TK_empty 5 = .ok (.aload_n 0, 1) := by decide +kernel
theorem d_TK_empty_6 : decode b_TK_empty 6 = .ok (.iconst 0, 1) := by decide +kernel
theorem d_TK_empty_7 : decode b_TK_empty 7 = .ok (.putfield 16, 3) := by decide +kernel
theorem d_TK_empty_10 : decode b_TK_empty 10 = .ok (.aload_n 0, 1) := by decide +kernel
theorem d_TK_empty_11 : decode b_TK_empty 11 = .ok (.iconst 0, 1) := by decide +kernel
theorem d_TK_empty_12 : decode b_TK_empty 12 = .ok (.putfield 20, 3) := by decide +kernel
theorem d_TK_empty_15 : decode b_TK_empty 15 = .ok (.iload_n 1, 1) := by decide +kernel
theorem d_TK_empty_16 : decode b_TK_empty 16 = .ok (.ireturn, 1) := by decide +kernel
theorem d_ND_canHear_0 : decode b_ND_canHear 0 = .ok (.aload_n 0, 1) := by decide +kernel
theorem d_ND_canHear_1 : decode b_ND_canHear 1 = .ok (.getfield 34, 3) := by decide +kernel
theorem d_ND_canHear_4 : decode b_ND_canHear 4 = .ok (.aload_n 1, 1) := by decide +kernel
theorem d_ND_canHear_5 : decode b_ND_canHear 5 = .ok (.getfield 19, 3) := by decide +kernel
theorem d_ND_canHear_8 : decode b_ND_canHear 8 = .ok (.invokestatic 53, 3) := by decide +kernel
theorem d_ND_canHear_11 : decode b_ND_canHear 11 = .ok (.ifCond .eq 11, 3) := by decide +kernel
theorem d_ND_canHear_14 : decode b_ND_canHear 14 = .ok (.aload_n 1, 1) := by decide +kernel
theorem d_ND_canHear_15 : decode b_ND_canHear 15 = .ok (.getfield 15, 3) := by decide +kernel
theorem d_ND_canHear_18 : decode b_ND_canHear 18 = .ok (.iconst 1, 1) := by decide +kernel
theorem d_ND_canHear_19 : decode b_ND_canHear 19 = .ok (.if_icmp .ne 5, 3) := by decide +kernel
theorem d_ND_canHear_22 : decode b_ND_canHear 22 = .ok (.iconst 0, 1) := by decide +kernel
theorem d_ND_canHear_23 : decode b_ND_canHear 23 = .ok (.ireturn, 1) := by decide +kernel
theorem d_ND_canHear_24 : decode b_ND_canHear 24 = .ok (.aload_n 0, 1) := by decide +kernel
theorem d_ND_canHear_25 : decode b_ND_canHear 25 = .ok (.getfield 57, 3) := by decide +kernel
theorem d_ND_canHear_28 : decode b_ND_canHear 28 = .ok (.aload_n 1, 1) := by decide +kernel
theorem d_ND_canHear_29 : decode b_ND_canHear 29 = .ok (.getfield 57, 3) := by decide +kernel
theorem d_ND_canHear_32 : decode b_ND_canHear 32 = .ok (.isub, 1) := by decide +kernel
theorem d_ND_canHear_33 : decode b_ND_canHear 33 = .ok (.aload_n 0, 1) := by decide +kernel
theorem d_ND_canHear_34 : decode b_ND_canHear 34 = .ok (.getfield 22, 3) := by decide +kernel
theorem d_ND_canHear_37 : decode b_ND_canHear 37 = .ok (.aload_n 1, 1) := by decide +kernel
theorem d_ND_canHear_38 : decode b_ND_canHear 38 = .ok (.getfield 19, 3) := by decide +kernel
theorem d_ND_canHear_41 : decode b_ND_canHear 41 = .ok (.iaload, 1) := by decide +kernel
theorem d_ND_canHear_42 : decode b_ND_canHear 42 = .ok (.iadd, 1) := by decide +kernel
theorem d_ND_canHear_43 : decode b_ND_canHear 43 = .ok (.iload_n 2, 1) := by decide +kernel
theorem d_ND_canHear_44 : decode b_ND_canHear 44 = .ok (.invokestatic 60, 3) := by decide +kernel
theorem d_ND_canHear_47 : decode b_ND_canHear 47 = .ok (.ireturn, 1) := by decide +kernel
theorem d_RL_beginFrame_0 : decode b_RL_beginFrame 0 = .ok (.aload_n 0, 1) := by decide +kernel
theorem d_RL_beginFrame_1 : decode b_RL_beginFrame 1 = .ok (.iload_n 1, 1) := by decide +kernel
theorem d_RL_beginFrame_2 : decode b_RL_beginFrame 2 = .ok (.putfield 26, 3) := by decide +kernel
theorem d_RL_beginFrame_5 : decode b_RL_beginFrame 5 = .ok (.aload_n 0, 1) := by decide +kernel
theorem d_RL_beginFrame_6 : decode b_RL_beginFrame 6 = .ok (.iconst 0, 1) := by decide +kernel
theorem d_RL_beginFrame_7 : decode b_RL_beginFrame 7 = .ok (.putfield 29, 3) := by decide +kernel
theorem d_RL_beginFrame_10 : decode b_RL_beginFrame 10 = .ok (.iconst 0, 1) := by decide +kernel
theorem d_RL_beginFrame_11 : decode b_RL_beginFrame 11 = .ok (.istore_n 2, 1) := by decide +kernel
theorem d_RL_beginFrame_12 : decode b_RL_beginFrame 12 = .ok (.iload_n 2, 1) := by decide +kernel
theorem d_RL_beginFrame_13 : decode b_RL_beginFrame 13 = .ok (.aload_n 0, 1) := by decide +kernel
theorem d_RL_beginFrame_14 : decode b_RL_beginFrame 14 = .ok (.getfield 7, 3) := by decide +kernel
theorem d_RL_beginFrame_17 : decode b_RL_beginFrame 17 = .ok (.arraylength, 1) := by decide +kernel
theorem d_RL_beginFrame_18 : decode b_RL_beginFrame 18 = .ok (.if_icmp .ge 33, 3) := by decide +kernel
theorem d_RL_beginFrame_21 : decode b_RL_beginFrame 21 = .ok (.aload_n 0, 1) := by decide +kernel
theorem d_RL_beginFrame_22 : decode b_RL_beginFrame 22 = .ok (.aload_n 0, 1) := by decide +kernel
theorem d_RL_beginFrame_23 : decode b_RL_beginFrame 23 = .ok (.getfield 29, 3) := by decide +kernel
theorem d_RL_beginFrame_26 : decode b_RL_beginFrame 26 = .ok (.aload_n 0, 1) := by decide +kernel
theorem d_RL_beginFrame_27 : decode b_RL_beginFrame 27 = .ok (.getfield 7, 3) := by decide +kernel
theorem d_RL_beginFrame_30 : decode b_RL_beginFrame 30 = .ok (.iload_n 2, 1) := by decide +kernel
theorem d_RL_beginFrame_31 : decode b_RL_beginFrame 31 = .ok (.aaload, 1) := by decide +kernel
theorem d_RL_beginFrame_32 : decode b_RL_beginFrame 32 = .ok (.aload_n 0, 1) := by decide +kernel
theorem d_RL_beginFrame_33 : decode b_RL_beginFrame 33 = .ok (.getfield 13, 3) := by decide +kernel
theorem d_RL_beginFrame_36 : decode b_RL_beginFrame 36 = .ok (.invokevirtual 32, 3) := by decide +kernel
theorem d_RL_beginFrame_39 : decode b_RL_beginFrame 39 = .ok (.invokestatic 38, 3) := by decide +kernel
theorem d_RL_beginFrame_42 : decode b_RL_beginFrame 42 = .ok (.putfield 29, 3) := by decide +kernel
theorem d_RL_beginFrame_45 : decode b_RL_beginFrame 45 = .ok (.iinc 2 1, 3) := by decide +kernel
theorem d_RL_beginFrame_48 : decode b_RL_beginFrame 48 = .ok (.goto (-36), 3) := by decide +kernel
theorem d_RL_beginFrame_51 : decode b_RL_beginFrame 51 = .ok (.return_, 1) := by decide +kernel
theorem d_ND_bearable_0 : decode b_ND_bearable 0 = .ok (.iload_n 1, 1) := by decide +kernel
theorem d_ND_bearable_1 : decode b_ND_bearable 1 = .ok (.aload_n 0, 1) := by decide +kernel
theorem d_ND_bearable_2 : decode b_ND_bearable 2 = .ok (.invokevirtual 43, 3) := by decide +kernel
theorem d_ND_bearable_5 : decode b_ND_bearable 5 = .ok (.iconst 1, 1) := by decide +kernel
theorem d_ND_bearable_6 : decode b_ND_bearable 6 = .ok (.isub, 1) := by decide +kernel
theorem d_ND_bearable_7 : decode b_ND_bearable 7 = .ok (.iconst 3, 1) := by decide +kernel
theorem d_ND_bearable_8 : decode b_ND_bearable 8 = .ok (.idiv, 1) := by decide +kernel
theorem d_ND_bearable_9 : decode b_ND_bearable 9 = .ok (.invokestatic 47, 3) := by decide +kernel
theorem d_ND_bearable_12 : decode b_ND_bearable 12 = .ok (.ireturn, 1) := by decide +kernel
theorem d_ND_memberCount_0 : decode b_ND_memberCount 0 = .ok (.aload_n 0, 1) := by decide +kernel
theorem d_ND_memberCount_1 : decode b_ND_memberCount 1 = .ok (.getfield 34, 3) := by decide +kernel
theorem d_ND_memberCount_4 : decode b_ND_memberCount 4 = .ok (.invokestatic 37, 3) := by decide +kernel
theorem d_ND_memberCount_7 : decode b_ND_memberCount 7 = .ok (.ireturn, 1) := by decide +kernel
theorem d_RL_spreadOut_0 : decode b_RL_spreadOut 0 = .ok (.aload_n 0, 1) := by decide +kernel
theorem d_RL_spreadOut_1 : decode b_RL_spreadOut 1 = .ok (.iload_n 1, 1) := by decide +kernel
theorem d_RL_spreadOut_2 : decode b_RL_spreadOut 2 = .ok (.putfield 44, 3) := by decide +kernel
theorem d_RL_spreadOut_5 : decode b_RL_spreadOut 5 = .ok (.aload_n 0, 1) := by decide +kernel
theorem d_RL_spreadOut_6 : decode b_RL_spreadOut 6 = .ok (.iload_n 2, 1) := by decide +kernel
theorem d_RL_spreadOut_7 : decode b_RL_spreadOut 7 = .ok (.putfield 47, 3) := by decide +kernel
theorem d_RL_spreadOut_10 : decode b_RL_spreadOut 10 = .ok (.aload_n 0, 1) := by decide +kernel
theorem d_RL_spreadOut_11 : decode b_RL_spreadOut 11 = .ok (.iload_n 1, 1) := by decide +kernel
theorem d_RL_spreadOut_12 : decode b_RL_spreadOut 12 = .ok (.iload_n 2, 1) := by decide +kernel
theorem d_RL_spreadOut_13 : decode b_RL_spreadOut 13 = .ok (.iconst 0, 1) := by decide +kernel
theorem d_RL_spreadOut_14 : decode b_RL_spreadOut 14 = .ok (.iconst 1, 1) := by decide +kernel
theorem d_RL_spreadOut_15 : decode b_RL_spreadOut 15 = .ok (.iload_n 1, 1) := by decide +kernel
theorem d_RL_spreadOut_16 : decode b_RL_spreadOut 16 = .ok (.ishl, 1) := by decide +kernel
theorem d_RL_spreadOut_17 : decode b_RL_spreadOut 17 = .ok (.aload_n 0, 1) := by decide +kernel
theorem d_RL_spreadOut_18 : decode b_RL_spreadOut 18 = .ok (.getfield 29, 3) := by decide +kernel
theorem d_RL_spreadOut_21 : decode b_RL_spreadOut 21 = .ok (.invokevirtual 50, 3) := by decide +kernel
theorem d_RL_spreadOut_24 : decode b_RL_spreadOut 24 = .ok (.return_, 1) := by decide +kernel
theorem d_RL_send_0 : decode b_RL_send 0 = .ok (.iconst 0, 1) := by decide +kernel
theorem d_RL_send_1 : decode b_RL_send 1 = .ok (.istore 6, 2) := by decide +kernel
theorem d_RL_send_3 : decode b_RL_send 3 = .ok (.iload 6, 2) := by decide +kernel
theorem d_RL_send_5 : decode b_RL_send 5 = .ok (.aload_n 0, 1) := by decide +kernel
theorem d_RL_send_6 : decode b_RL_send 6 = .ok (.getfield 7, 3) := by decide +kernel
theorem d_RL_send_9 : decode b_RL_send 9 = .ok (.arraylength, 1) := by decide +kernel
theorem d_RL_send_10 : decode b_RL_send 10 = .ok (.if_icmp .ge 39, 3) := by decide +kernel
theorem d_RL_send_13 : decode b_RL_send 13 = .ok (.iload 4, 2) := by decide +kernel
theorem d_RL_send_15 : decode b_RL_send 15 = .ok (.iload 6, 2) := by decide +kernel
theorem d_RL_send_17 : decode b_RL_send 17 = .ok (.invokestatic 57, 3) := by decide +kernel
theorem d_RL_send_20 : decode b_RL_send 20 = .ok (.ifCond .ne 23, 3) := by decide +kernel
theorem d_RL_send_23 : decode b_RL_send 23 = .ok (.aload_n 0, 1) := by decide +kernel
theorem d_RL_send_24 : decode b_RL_send 24 = .ok (.getfield 17, 3) := by decide +kernel
theorem d_RL_send_27 : decode b_RL_send 27 = .ok (.aload_n 0, 1) := by decide +kernel
theorem d_RL_send_28 : decode b_RL_send 28 = .ok (.iload_n 3, 1) := by decide +kernel
theorem d_RL_send_29 : decode b_RL_send 29 = .ok (.iload 6, 2) := by decide +kernel
theorem d_RL_send_31 : decode b_RL_send 31 = .ok (.invokevirtual 74, 3) := by decide +kernel
theorem d_RL_send_34 : decode b_RL_send 34 = .ok (.aload_n 0, 1) := by decide +kernel
theorem d_RL_send_35 : decode b_RL_send 35 = .ok (.iload_n 1, 1) := by decide +kernel
theorem d_RL_send_36 : decode b_RL_send 36 = .ok (.iload_n 2, 1) := by decide +kernel
theorem d_RL_send_37 : decode b_RL_send 37 = .ok (.iload 6, 2) := by decide +kernel
theorem d_RL_send_39 : decode b_RL_send 39 = .ok (.invokevirtual 77, 3) := by decide +kernel
theorem d_RL_send_42 : decode b_RL_send 42 = .ok (.iastore, 1) := by decide +kernel
theorem d_RL_send_43 : decode b_RL_send 43 = .ok (.iinc 6 1, 3) := by decide +kernel
theorem d_RL_send_46 : decode b_RL_send 46 = .ok (.goto (-43), 3) := by decide +kernel
theorem d_RL_send_49 : decode b_RL_send 49 = .ok (.iload 5, 2) := by decide +kernel
theorem d_RL_send_51 : decode b_RL_send 51 = .ok (.ifCond .gt 4, 3) := by decide +kernel
theorem d_RL_send_54 : decode b_RL_send 54 = .ok (.return_, 1) := by decide +kernel
theorem d_RL_send_55 : decode b_RL_send 55 = .ok (.iconst 0, 1) := by decide +kernel
theorem d_RL_send_56 : decode b_RL_send 56 = .ok (.istore 6, 2) := by decide +kernel
theorem d_RL_send_58 : decode b_RL_send 58 = .ok (.iload 6, 2) := by decide +kernel
theorem d_RL_send_60 : decode b_RL_send 60 = .ok (.aload_n 0, 1) := by decide +kernel
theorem d_RL_send_61 : decode b_RL_send 61 = .ok (.getfield 7, 3) := by decide +kernel
theorem d_RL_send_64 : decode b_RL_send 64 = .ok (.arraylength, 1) := by decide +kernel
theorem d_RL_send_65 : decode b_RL_send 65 = .ok (.if_icmp .ge 55, 3) := by decide +kernel
theorem d_RL_send_68 : decode b_RL_send 68 = .ok (.iload 4, 2) := by decide +kernel
theorem d_RL_send_70 : decode b_RL_send 70 = .ok (.iload 6, 2) := by decide +kernel
theorem d_RL_send_72 : decode b_RL_send 72 = .ok (.invokestatic 57, 3) := by decide +kernel
theorem d_RL_send_75 : decode b_RL_send 75 = .ok (.ifCond .ne 39, 3) := by decide +kernel
theorem d_RL_send_78 : decode b_RL_send 78 = .ok (.aload_n 0, 1) := by decide +kernel
theorem d_RL_send_79 : decode b_RL_send 79 = .ok (.iload 6, 2) := by decide +kernel
theorem d_RL_send_81 : decode b_RL_send 81 = .ok (.aload_n 0, 1) := by decide +kernel
theorem d_RL_send_82 : decode b_RL_send 82 = .ok (.getfield 17, 3) := by decide +kernel
theorem d_RL_send_85 : decode b_RL_send 85 = .ok (.aload_n 0, 1) := by decide +kernel
theorem d_RL_send_86 : decode b_RL_send 86 = .ok (.iload_n 3, 1) := by decide +kernel
theorem d_RL_send_87 : decode b_RL_send 87 = .ok (.iload 6, 2) := by decide +kernel
theorem d_RL_send_89 : decode b_RL_send 89 = .ok (.invokevirtual 74, 3) := by decide +kernel
theorem d_RL_send_92 : decode b_RL_send 92 = .ok (.iaload, 1) := by decide +kernel
theorem d_RL_send_93 : decode b_RL_send 93 = .ok (.aload_n 0, 1) := by decide +kernel
theorem d_RL_send_94 : decode b_RL_send 94 = .ok (.iload_n 3, 1) := by decide +kernel
theorem d_RL_send_95 : decode b_RL_send 95 = .ok (.iload 6, 2) := by decide +kernel
theorem d_RL_send_97 : decode b_RL_send 97 = .ok (.invokevirtual 80, 3) := by decide +kernel
theorem d_RL_send_100 : decode b_RL_send 100 = .ok (.iload 4, 2) := by decide +kernel
theorem d_RL_send_102 : decode b_RL_send 102 = .ok (.iconst 1, 1) := by decide +kernel
theorem d_RL_send_103 : decode b_RL_send 103 = .ok (.iload 6, 2) := by decide +kernel
theorem d_RL_send_105 : decode b_RL_send 105 = .ok (.ishl, 1) := by decide +kernel
theorem d_RL_send_106 : decode b_RL_send 106 = .ok (.ior, 1) := by decide +kernel
theorem d_RL_send_107 : decode b_RL_send 107 = .ok (.iload 5, 2) := by decide +kernel
theorem d_RL_send_109 : decode b_RL_send 109 = .ok (.iconst 1, 1) := by decide +kernel
theorem d_RL_send_110 : decode b_RL_send 110 = .ok (.isub, 1) := by decide +kernel
theorem d_RL_send_111 : decode b_RL_send 111 = .ok (.invokevirtual 50, 3) := by decide +kernel
theorem d_RL_send_114 : decode b_RL_send 114 = .ok (.iinc 6 1, 3) := by decide +kernel
theorem d_RL_send_117 : decode b_RL_send 117 = .ok (.goto (-59), 3) := by decide +kernel
theorem d_RL_send_120 : decode b_RL_send 120 = .ok (.return_, 1) := by decide +kernel
theorem d_RL_placeOf_0 : decode b_RL_placeOf 0 = .ok (.iload_n 1, 1) := by decide +kernel
theorem d_RL_placeOf_1 : decode b_RL_placeOf 1 = .ok (.aload_n 0, 1) := by decide +kernel
theorem d_RL_placeOf_2 : decode b_RL_placeOf 2 = .ok (.getfield 7, 3) := by decide +kernel
theorem d_RL_placeOf_5 : decode b_RL_placeOf 5 = .ok (.arraylength, 1) := by decide +kernel
theorem d_RL_placeOf_6 : decode b_RL_placeOf 6 = .ok (.imul, 1) := by decide +kernel
theorem d_RL_placeOf_7 : decode b_RL_placeOf 7 = .ok (.iload_n 2, 1) := by decide +kernel
theorem d_RL_placeOf_8 : decode b_RL_placeOf 8 = .ok (.iadd, 1) := by decide +kernel
theorem d_RL_placeOf_9 : decode b_RL_placeOf 9 = .ok (.ireturn, 1) := by decide +kernel
theorem d_RL_got_0 : decode b_RL_got 0 = .ok (.aload_n 0, 1) := by decide +kernel
theorem d_RL_got_1 : decode b_RL_got 1 = .ok (.getfield 7, 3) := by decide +kernel
theorem d_RL_got_4 : decode b_RL_got 4 = .ok (.iload_n 3, 1) := by decide +kernel
theorem d_RL_got_5 : decode b_RL_got 5 = .ok (.aaload, 1) := by decide +kernel
theorem d_RL_got_6 : decode b_RL_got 6 = .ok (.getfield 67, 3) := by decide +kernel
theorem d_RL_got_9 : decode b_RL_got 9 = .ok (.iload_n 1, 1) := by decide +kernel
theorem d_RL_got_10 : decode b_RL_got 10 = .ok (.invokestatic 57, 3) := by decide +kernel
theorem d_RL_got_13 : decode b_RL_got 13 = .ok (.ifCond .eq 21, 3) := by decide +kernel
theorem d_RL_got_16 : decode b_RL_got 16 = .ok (.aload_n 0, 1) := by decide +kernel
theorem d_RL_got_17 : decode b_RL_got 17 = .ok (.getfield 7, 3) := by decide +kernel
theorem d_RL_got_20 : decode b_RL_got 20 = .ok (.iload_n 1, 1) := by decide +kernel
theorem d_RL_got_21 : decode b_RL_got 21 = .ok (.aaload, 1) := by decide +kernel
theorem d_RL_got_22 : decode b_RL_got 22 = .ok (.iload_n 2, 1) := by decide +kernel
theorem d_RL_got_23 : decode b_RL_got 23 = .ok (.iload_n 3, 1) := by decide +kernel
theorem d_RL_got_24 : decode b_RL_got 24 = .ok (.aload_n 0, 1) := by decide +kernel
theorem d_RL_got_25 : decode b_RL_got 25 = .ok (.getfield 26, 3) := by decide +kernel
theorem d_RL_got_28 : decode b_RL_got 28 = .ok (.invokevirtual 70, 3) := by decide +kernel
theorem d_RL_got_31 : decode b_RL_got 31 = .ok (.goto 4, 3) := by decide +kernel
theorem d_RL_got_34 : decode b_RL_got 34 = .ok (.iconst 0, 1) := by decide +kernel
theorem d_RL_got_35 : decode b_RL_got 35 = .ok (.ireturn, 1) := by decide +kernel
theorem d_ND_says_0 : decode b_ND_says 0 = .ok (.aload_n 0, 1) := by decide +kernel
theorem d_ND_says_1 : decode b_ND_says 1 = .ok (.getfield 15, 3) := by decide +kernel
theorem d_ND_says_4 : decode b_ND_says 4 = .ok (.tableswitch 80 2 5 #[32, 37, 54, 65], 32) := by decide +kernel
theorem d_ND_says_36 : decode b_ND_says 36 = .ok (.aload_n 0, 1) := by decide +kernel
theorem d_ND_says_37 : decode b_ND_says 37 = .ok (.getfield 63, 3) := by decide +kernel
theorem d_ND_says_40 : decode b_ND_says 40 = .ok (.ireturn, 1) := by decide +kernel
theorem d_ND_says_41 : decode b_ND_says 41 = .ok (.iload_n 2, 1) := by decide +kernel
theorem d_ND_says_42 : decode b_ND_says 42 = .ok (.iconst 2, 1) := by decide +kernel
theorem d_ND_says_43 : decode b_ND_says 43 = .ok (.irem, 1) := by decide +kernel
theorem d_ND_says_44 : decode b_ND_says 44 = .ok (.ifCond .eq 12, 3) := by decide +kernel
theorem d_ND_says_47 : decode b_ND_says 47 = .ok (.iload_n 1, 1) := by decide +kernel
theorem d_ND_says_48 : decode b_ND_says 48 = .ok (.aload_n 0, 1) := by decide +kernel
theorem d_ND_says_49 : decode b_ND_says 49 = .ok (.getfield 63, 3) := by decide +kernel
theorem d_ND_says_52 : decode b_ND_says 52 = .ok (.iadd, 1) := by decide +kernel
theorem d_ND_says_53 : decode b_ND_says 53 = .ok (.goto 4, 3) := by decide +kernel
theorem d_ND_says_56 : decode b_ND_says 56 = .ok (.iload_n 1, 1) := by decide +kernel
theorem d_ND_says_57 : decode b_ND_says 57 = .ok (.ireturn, 1) := by decide +kernel
theorem d_ND_says_58 : decode b_ND_says 58 = .ok (.iload_n 1, 1) := by decide +kernel
theorem d_ND_says_59 : decode b_ND_says 59 = .ok (.aload_n 0, 1) := by decide +kernel
theorem d_ND_says_60 : decode b_ND_says 60 = .ok (.getfield 63, 3) := by decide +kernel
theorem d_ND_says_63 : decode b_ND_says 63 = .ok (.iload_n 2, 1) := by decide +kernel
theorem d_ND_says_64 : decode b_ND_says 64 = .ok (.iconst 1, 1) := by decide +kernel
theorem d_ND_says_65 : decode b_ND_says 65 = .ok (.iadd, 1) := by decide +kernel
theorem d_ND_says_66 : decode b_ND_says 66 = .ok (.imul, 1) := by decide +kernel
theorem d_ND_says_67 : decode b_ND_says 67 = .ok (.iadd, 1) := by decide +kernel
theorem d_ND_says_68 : decode b_ND_says 68 = .ok (.ireturn, 1) := by decide +kernel
theorem d_ND_says_69 : decode b_ND_says 69 = .ok (.iload_n 3, 1) := by decide +kernel
theorem d_ND_says_70 : decode b_ND_says 70 = .ok (.iconst 2, 1) := by decide +kernel
theorem d_ND_says_71 : decode b_ND_says 71 = .ok (.irem, 1) := by decide +kernel
theorem d_ND_says_72 : decode b_ND_says 72 = .ok (.ifCond .eq 10, 3) := by decide +kernel
theorem d_ND_says_75 : decode b_ND_says 75 = .ok (.aload_n 0, 1) := by decide +kernel
theorem d_ND_says_76 : decode b_ND_says 76 = .ok (.getfield 63, 3) := by decide +kernel
theorem d_ND_says_79 : decode b_ND_says 79 = .ok (.goto 4, 3) := by decide +kernel
theorem d_ND_says_82 : decode b_ND_says 82 = .ok (.iload_n 1, 1) := by decide +kernel
theorem d_ND_says_83 : decode b_ND_says 83 = .ok (.ireturn, 1) := by decide +kernel
theorem d_ND_says_84 : decode b_ND_says 84 = .ok (.iload_n 1, 1) := by decide +kernel
theorem d_ND_says_85 : decode b_ND_says 85 = .ok (.ireturn, 1) := by decide +kernel
theorem d_RL_follow_0 : decode b_RL_follow 0 = .ok (.iload_n 1, 1) := by decide +kernel
theorem d_RL_follow_1 : decode b_RL_follow 1 = .ok (.aload_n 0, 1) := by decide +kernel
theorem d_RL_follow_2 : decode b_RL_follow 2 = .ok (.getfield 7, 3) := by decide +kernel
theorem d_RL_follow_5 : decode b_RL_follow 5 = .ok (.arraylength, 1) := by decide +kernel
theorem d_RL_follow_6 : decode b_RL_follow 6 = .ok (.imul, 1) := by decide +kernel
theorem d_RL_follow_7 : decode b_RL_follow 7 = .ok (.iconst 1, 1) := by decide +kernel
theorem d_RL_follow_8 : decode b_RL_follow 8 = .ok (.iadd, 1) := by decide +kernel
theorem d_RL_follow_9 : decode b_RL_follow 9 = .ok (.iload_n 2, 1) := by decide +kernel
theorem d_RL_follow_10 : decode b_RL_follow 10 = .ok (.iadd, 1) := by decide +kernel
theorem d_RL_follow_11 : decode b_RL_follow 11 = .ok (.ireturn, 1) := by decide +kernel
theorem d_RL_agreedBy_0 : decode b_RL_agreedBy 0 = .ok (.iload_n 1, 1) := by decide +kernel
theorem d_RL_agreedBy_1 : decode b_RL_agreedBy 1 = .ok (.aload_n 0, 1) := by decide +kernel
theorem d_RL_agreedBy_2 : decode b_RL_agreedBy 2 = .ok (.getfield 44, 3) := by decide +kernel
theorem d_RL_agreedBy_5 : decode b_RL_agreedBy 5 = .ok (.if_icmp .ne 8, 3) := by decide +kernel
theorem d_RL_agreedBy_8 : decode b_RL_agreedBy 8 = .ok (.aload_n 0, 1) := by decide +kernel
theorem d_RL_agreedBy_9 : decode b_RL_agreedBy 9 = .ok (.getfield 47, 3) := by decide +kernel
theorem d_RL_agreedBy_12 : decode b_RL_agreedBy 12 = .ok (.ireturn, 1) := by decide +kernel
theorem d_RL_agreedBy_13 : decode b_RL_agreedBy 13 = .ok (.aload_n 0, 1) := by decide +kernel
theorem d_RL_agreedBy_14 : decode b_RL_agreedBy 14 = .ok (.getfield 7, 3) := by decide +kernel
theorem d_RL_agreedBy_17 : decode b_RL_agreedBy 17 = .ok (.iload_n 1, 1) := by decide +kernel
theorem d_RL_agreedBy_18 : decode b_RL_agreedBy 18 = .ok (.aaload, 1) := by decide +kernel
theorem d_RL_agreedBy_19 : decode b_RL_agreedBy 19 = .ok (.astore_n 2, 1) := by decide +kernel
theorem d_RL_agreedBy_20 : decode b_RL_agreedBy 20 = .ok (.aload_n 2, 1) := by decide +kernel
theorem d_RL_agreedBy_21 : decode b_RL_agreedBy 21 = .ok (.getfield 54, 3) := by decide +kernel
theorem d_RL_agreedBy_24 : decode b_RL_agreedBy 24 = .ok (.aload_n 0, 1) := by decide +kernel
theorem d_RL_agreedBy_25 : decode b_RL_agreedBy 25 = .ok (.getfield 44, 3) := by decide +kernel
theorem d_RL_agreedBy_28 : decode b_RL_agreedBy 28 = .ok (.invokestatic 57, 3) := by decide +kernel
theorem d_RL_agreedBy_31 : decode b_RL_agreedBy 31 = .ok (.ifCond .ne 5, 3) := by decide +kernel
theorem d_RL_agreedBy_34 : decode b_RL_agreedBy 34 = .ok (.iconst 0, 1) := by decide +kernel
theorem d_RL_agreedBy_35 : decode b_RL_agreedBy 35 = .ok (.ireturn, 1) := by decide +kernel
theorem d_RL_agreedBy_36 : decode b_RL_agreedBy 36 = .ok (.aload_n 0, 1) := by decide +kernel
theorem d_RL_agreedBy_37 : decode b_RL_agreedBy 37 = .ok (.aload_n 2, 1) := by decide +kernel
theorem d_RL_agreedBy_38 : decode b_RL_agreedBy 38 = .ok (.iconst 0, 1) := by decide +kernel
theorem d_RL_agreedBy_39 : decode b_RL_agreedBy 39 = .ok (.iconst 1, 1) := by decide +kernel
theorem d_RL_agreedBy_40 : decode b_RL_agreedBy 40 = .ok (.aload_n 0, 1) := by decide +kernel
theorem d_RL_agreedBy_41 : decode b_RL_agreedBy 41 = .ok (.getfield 44, 3) := by decide +kernel
theorem d_RL_agreedBy_44 : decode b_RL_agreedBy 44 = .ok (.ishl, 1) := by decide +kernel
theorem d_RL_agreedBy_45 : decode b_RL_agreedBy 45 = .ok (.aload_n 2, 1) := by decide +kernel
theorem d_RL_agreedBy_46 : decode b_RL_agreedBy 46 = .ok (.aload_n 0, 1) := by decide +kernel
theorem d_RL_agreedBy_47 : decode b_RL_agreedBy 47 = .ok (.getfield 13, 3) := by decide +kernel
theorem d_RL_agreedBy_50 : decode b_RL_agreedBy 50 = .ok (.invokevirtual 32, 3) := by decide +kernel
theorem d_RL_agreedBy_53 : decode b_RL_agreedBy 53 = .ok (.invokevirtual 63, 3) := by decide +kernel
theorem d_RL_agreedBy_56 : decode b_RL_agreedBy 56 = .ok (.ireturn, 1) := by decide +kernel
theorem d_RL_make_0 : decode b_RL_make 0 = .ok (.aload_n 0, 1) := by decide +kernel
theorem d_RL_make_1 : decode b_RL_make 1 = .ok (.getfield 17, 3) := by decide +kernel
theorem d_RL_make_4 : decode b_RL_make 4 = .ok (.aload_n 0, 1) := by decide +kernel
theorem d_RL_make_5 : decode b_RL_make 5 = .ok (.iload_n 2, 1) := by decide +kernel
theorem d_RL_make_6 : decode b_RL_make 6 = .ok (.aload_n 1, 1) := by decide +kernel
theorem d_RL_make_7 : decode b_RL_make 7 = .ok (.getfield 83, 3) := by decide +kernel
theorem d_RL_make_10 : decode b_RL_make 10 = .ok (.invokevirtual 74, 3) := by decide +kernel
theorem d_RL_make_13 : decode b_RL_make 13 = .ok (.iaload, 1) := by decide +kernel
theorem d_RL_make_14 : decode b_RL_make 14 = .ok (.istore 5, 2) := by decide +kernel
theorem d_RL_make_16 : decode b_RL_make 16 = .ok (.iload 4, 2) := by decide +kernel
theorem d_RL_make_18 : decode b_RL_make 18 = .ok (.ifCond .gt 6, 3) := by decide +kernel
theorem d_RL_make_21 : decode b_RL_make 21 = .ok (.iload 5, 2) := by decide +kernel
theorem d_RL_make_23 : decode b_RL_make 23 = .ok (.ireturn, 1) := by decide +kernel
theorem d_RL_make_24 : decode b_RL_make 24 = .ok (.aload_n 0, 1) := by decide +kernel
theorem d_RL_make_25 : decode b_RL_make 25 = .ok (.getfield 23, 3) := by decide +kernel
theorem d_RL_make_28 : decode b_RL_make 28 = .ok (.iload 4, 2) := by decide +kernel
theorem d_RL_make_30 : decode b_RL_make 30 = .ok (.aaload, 1) := by decide +kernel
theorem d_RL_make_31 : decode b_RL_make 31 = .ok (.astore 6, 2) := by decide +kernel
theorem d_RL_make_33 : decode b_RL_make 33 = .ok (.aload 6, 2) := by decide +kernel
theorem d_RL_make_35 : decode b_RL_make 35 = .ok (.iconst 0, 1) := by decide +kernel
theorem d_RL_make_36 : decode b_RL_make 36 = .ok (.iload 5, 2) := by decide +kernel
theorem d_RL_make_38 : decode b_RL_make 38 = .ok (.iastore, 1) := by decide +kernel
theorem d_RL_make_39 : decode b_RL_make 39 = .ok (.iconst 1, 1) := by decide +kernel
theorem d_RL_make_40 : decode b_RL_make 40 = .ok (.istore 7, 2) := by decide +kernel
theorem d_RL_make_42 : decode b_RL_make 42 = .ok (.aload_n 1, 1) := by decide +kernel
theorem d_RL_make_43 : decode b_RL_make 43 = .ok (.getfield 54, 3) := by decide +kernel
theorem d_RL_make_46 : decode b_RL_make 46 = .ok (.iload_n 3, 1) := by decide +kernel
theorem d_RL_make_47 : decode b_RL_make 47 = .ok (.iconst (-1), 1) := by decide +kernel
theorem d_RL_make_48 : decode b_RL_make 48 = .ok (.ixor, 1) := by decide +kernel
theorem d_RL_make_49 : decode b_RL_make 49 = .ok (.iand, 1) := by decide +kernel
theorem d_RL_make_50 : decode b_RL_make 50 = .ok (.iconst 1, 1) := by decide +kernel
theorem d_RL_make_51 : decode b_RL_make 51 = .ok (.aload_n 1, 1) := by decide +kernel
theorem d_RL_make_52 : decode b_RL_make 52 = .ok (.getfield 83, 3) := by decide +kernel
theorem d_RL_make_55 : decode b_RL_make 55 = .ok (.ishl, 1) := by decide +kernel
theorem d_RL_make_56 : decode b_RL_make 56 = .ok (.iconst (-1), 1) := by decide +kernel
theorem d_RL_make_57 : decode b_RL_make 57 = .ok (.ixor, 1) := by decide +kernel
theorem d_RL_make_58 : decode b_RL_make 58 = .ok (.iand, 1) := by decide +kernel
theorem d_RL_make_59 : decode b_RL_make 59 = .ok (.istore 8, 2) := by decide +kernel
theorem d_RL_make_61 : decode b_RL_make 61 = .ok (.iconst 0, 1) := by decide +kernel
theorem d_RL_make_62 : decode b_RL_make 62 = .ok (.istore 9, 2) := by decide +kernel
theorem d_RL_make_64 : decode b_RL_make 64 = .ok (.iload 9, 2) := by decide +kernel
theorem d_RL_make_66 : decode b_RL_make 66 = .ok (.aload_n 0, 1) := by decide +kernel
theorem d_RL_make_67 : decode b_RL_make 67 = .ok (.getfield 7, 3) := by decide +kernel
theorem d_RL_make_70 : decode b_RL_make 70 = .ok (.arraylength, 1) := by decide +kernel
theorem d_RL_make_71 : decode b_RL_make 71 = .ok (.if_icmp .ge 49, 3) := by decide +kernel
theorem d_RL_make_74 : decode b_RL_make 74 = .ok (.iload 8, 2) := by decide +kernel
theorem d_RL_make_76 : decode b_RL_make 76 = .ok (.iload 9, 2) := by decide +kernel
theorem d_RL_make_78 : decode b_RL_make 78 = .ok (.invokestatic 57, 3) := by decide +kernel
theorem d_RL_make_81 : decode b_RL_make 81 = .ok (.ifCond .eq 33, 3) := by decide +kernel
theorem d_RL_make_84 : decode b_RL_make 84 = .ok (.aload 6, 2) := by decide +kernel
theorem d_RL_make_86 : decode b_RL_make 86 = .ok (.iload 7, 2) := by decide +kernel
theorem d_RL_make_88 : decode b_RL_make 88 = .ok (.aload_n 0, 1) := by decide +kernel
theorem d_RL_make_89 : decode b_RL_make 89 = .ok (.aload_n 1, 1) := by decide +kernel
theorem d_RL_make_90 : decode b_RL_make 90 = .ok (.aload_n 0, 1) := by decide +kernel
theorem d_RL_make_91 : decode b_RL_make 91 = .ok (.iload_n 2, 1) := by decide +kernel
theorem d_RL_make_92 : decode b_RL_make 92 = .ok (.iload 9, 2) := by decide +kernel
theorem d_RL_make_94 : decode b_RL_make 94 = .ok (.invokevirtual 80, 3) := by decide +kernel
theorem d_RL_make_97 : decode b_RL_make 97 = .ok (.iload_n 3, 1) := by decide +kernel
theorem d_RL_make_98 : decode b_RL_make 98 = .ok (.iconst 1, 1) := by decide +kernel
theorem d_RL_make_99 : decode b_RL_make 99 = .ok (.iload 9, 2) := by decide +kernel
theorem d_RL_make_101 : decode b_RL_make 101 = .ok (.ishl, 1) := by decide +kernel
theorem d_RL_make_102 : decode b_RL_make 102 = .ok (.ior, 1) := by decide +kernel
theorem d_RL_make_103 : decode b_RL_make 103 = .ok (.iload 4, 2) := by decide +kernel
theorem d_RL_make_105 : decode b_RL_make 105 = .ok (.iconst 1, 1) := by decide +kernel
theorem d_RL_make_106 : decode b_RL_make 106 = .ok (.isub, 1) := by decide +kernel
theorem d_RL_make_107 : decode b_RL_make 107 = .ok (.invokevirtual 63, 3) := by decide +kernel
theorem d_RL_make_110 : decode b_RL_make 110 = .ok (.iastore, 1) := by decide +kernel
theorem d_RL_make_111 : decode b_RL_make 111 = .ok (.iinc 7 1, 3) := by decide +kernel
theorem d_RL_make_114 : decode b_RL_make 114 = .ok (.iinc 9 1, 3) := by decide +kernel
theorem d_RL_make_117 : decode b_RL_make 117 = .ok (.goto (-53), 3) := by decide +kernel
theorem d_RL_make_120 : decode b_RL_make 120 = .ok (.aload 6, 2) := by decide +kernel
theorem d_RL_make_122 : decode b_RL_make 122 = .ok (.iload 7, 2) := by decide +kernel
theorem d_RL_make_124 : decode b_RL_make 124 = .ok (.iload 7, 2) := by decide +kernel
theorem d_RL_make_126 : decode b_RL_make 126 = .ok (.invokestatic 86, 3) := by decide +kernel
theorem d_RL_make_129 : decode b_RL_make 129 = .ok (.istore 9, 2) := by decide +kernel
theorem d_RL_make_131 : decode b_RL_make 131 = .ok (.iload 9, 2) := by decide +kernel
theorem d_RL_make_133 : decode b_RL_make 133 = .ok (.ifCond .ge 7, 3) := by decide +kernel
theorem d_RL_make_136 : decode b_RL_make 136 = .ok (.iconst 0, 1) := by decide +kernel
theorem d_RL_make_137 : decode b_RL_make 137 = .ok (.goto 8, 3) := by decide +kernel
theorem d_RL_make_140 : decode b_RL_make 140 = .ok (.aload 6, 2) := by decide +kernel
theorem d_RL_make_142 : decode b_RL_make 142 = .ok (.iload 9, 2) := by decide +kernel
theorem d_RL_make_144 : decode b_RL_make 144 = .ok (.iaload, 1) := by decide +kernel
theorem d_RL_make_145 : decode b_RL_make 145 = .ok (.ireturn, 1) := by decide +kernel
theorem d_TK_isDueIn_0 : decode b_TK_isDueIn 0 = .ok (.aload_n 0, 1) := by decide +kernel
theorem d_TK_isDueIn_1 : decode b_TK_isDueIn 1 = .ok (.getfield 20, 3) := by decide +kernel
theorem d_TK_isDueIn_4 : decode b_TK_isDueIn 4 = .ok (.ifCond .le 20, 3) := by decide +kernel
theorem d_TK_isDueIn_7 : decode b_TK_isDueIn 7 = .ok (.iload_n 1, 1) := by decide +kernel
theorem d_TK_isDueIn_8 : decode b_TK_isDueIn 8 = .ok (.aload_n 0, 1) := by decide +kernel
theorem d_TK_isDueIn_9 : decode b_TK_isDueIn 9 = .ok (.getfield 20, 3) := by decide +kernel
theorem d_TK_isDueIn_12 : decode b_TK_isDueIn 12 = .ok (.irem, 1) := by decide +kernel
theorem d_TK_isDueIn_13 : decode b_TK_isDueIn 13 = .ok (.aload_n 0, 1) := by decide +kernel
theorem d_TK_isDueIn_14 : decode b_TK_isDueIn 14 = .ok (.getfield 23, 3) := by decide +kernel
theorem d_TK_isDueIn_17 : decode b_TK_isDueIn 17 = .ok (.if_icmp .ne 7, 3) := by decide +kernel
theorem d_TK_isDueIn_20 : decode b_TK_isDueIn 20 = .ok (.iconst 1, 1) := by decide +kernel
theorem d_TK_isDueIn_21 : decode b_TK_isDueIn 21 = .ok (.goto 4, 3) := by decide +kernel
theorem d_TK_isDueIn_24 : decode b_TK_isDueIn 24 = .ok (.iconst 0, 1) := by decide +kernel
theorem d_TK_isDueIn_25 : decode b_TK_isDueIn 25 = .ok (.ireturn, 1) := by decide +kernel
theorem d_SM_resultOf_0 : decode b_SM_resultOf 0 = .ok (.aload_n 0, 1) := by decide +kernel
theorem d_SM_resultOf_1 : decode b_SM_resultOf 1 = .ok (.iconst 0, 1) := by decide +kernel
theorem d_SM_resultOf_2 : decode b_SM_resultOf 2 = .ok (.putfield 15, 3) := by decide +kernel
theorem d_SM_resultOf_5 : decode b_SM_resultOf 5 = .ok (.iconst 0, 1) := by decide +kernel
theorem d_SM_resultOf_6 : decode b_SM_resultOf 6 = .ok (.istore 4, 2) := by decide +kernel
theorem d_SM_resultOf_8 : decode b_SM_resultOf 8 = .ok (.iconst 0, 1) := by decide +kernel
theorem d_SM_resultOf_9 : decode b_SM_resultOf 9 = .ok (.istore 5, 2) := by decide +kernel
theorem d_SM_resultOf_11 : decode b_SM_resultOf 11 = .ok (.iload 5, 2) := by decide +kernel
theorem d_SM_resultOf_13 : decode b_SM_resultOf 13 = .ok (.aload_n 1, 1) := by decide +kernel
theorem d_SM_resultOf_14 : decode b_SM_resultOf 14 = .ok (.getfield 19, 3) := by decide +kernel
theorem d_SM_resultOf_17 : decode b_SM_resultOf 17 = .ok (.if_icmp .ge 134, 3) := by decide +kernel
theorem d_SM_resultOf_20 : decode b_SM_resultOf 20 = .ok (.iload 4, 2) := by decide +kernel
theorem d_SM_resultOf_22 : decode b_SM_resultOf 22 = .ok (.ifCond .le 9, 3) := by decide +kernel
theorem d_SM_resultOf_25 : decode b_SM_resultOf 25 = .ok (.iinc 4 (-1), 3) := by decide +kernel
theorem d_SM_resultOf_28 : decode b_SM_resultOf 28 = .ok (.goto 117, 3) := by decide +kernel
theorem d_SM_resultOf_31 : decode b_SM_resultOf 31 = .ok (.aload_n 1, 1) := by decide +kernel
theorem d_SM_resultOf_32 : decode b_SM_resultOf 32 = .ok (.getfield 24, 3) := by decide +kernel
theorem d_SM_resultOf_35 : decode b_SM_resultOf 35 = .ok (.iload 5, 2) := by decide +kernel
theorem d_SM_resultOf_37 : decode b_SM_resultOf 37 = .ok (.iaload, 1) := by decide +kernel
theorem d_SM_resultOf_38 : decode b_SM_resultOf 38 = .ok (.istore 6, 2) := by decide +kernel
theorem d_SM_resultOf_40 : decode b_SM_resultOf 40 = .ok (.aload_n 1, 1) := by decide +kernel
theorem d_SM_resultOf_41 : decode b_SM_resultOf 41 = .ok (.getfield 27, 3) := by decide +kernel
theorem d_SM_resultOf_44 : decode b_SM_resultOf 44 = .ok (.iload 5, 2) := by decide +kernel
theorem d_SM_resultOf_46 : decode b_SM_resultOf 46 = .ok (.iaload, 1) := by decide +kernel
theorem d_SM_resultOf_47 : decode b_SM_resultOf 47 = .ok (.istore 7, 2) := by decide +kernel
theorem d_SM_resultOf_49 : decode b_SM_resultOf 49 = .ok (.aload_n 0, 1) := by decide +kernel
theorem d_SM_resultOf_50 : decode b_SM_resultOf 50 = .ok (.iload 6, 2) := by decide +kernel
theorem d_SM_resultOf_52 : decode b_SM_resultOf 52 = .ok (.invokevirtual 30, 3) := by decide +kernel
theorem d_SM_resultOf_55 : decode b_SM_resultOf 55 = .ok (.istore 8, 2) := by decide +kernel
theorem d_SM_resultOf_57 : decode b_SM_resultOf 57 = .ok (.iload 8, 2) := by decide +kernel
theorem d_SM_resultOf_59 : decode b_SM_resultOf 59 = .ok (.ifCond .eq 6, 3) := by decide +kernel
theorem d_SM_resultOf_62 : decode b_SM_resultOf 62 = .ok (.iload 8, 2) := by decide +kernel
theorem d_SM_resultOf_64 : decode b_SM_resultOf 64 = .ok (.ireturn, 1) := by decide +kernel
theorem d_SM_resultOf_65 : decode b_SM_resultOf 65 = .ok (.iload 6, 2) := by decide +kernel
theorem d_SM_resultOf_67 : decode b_SM_resultOf 67 = .ok (.bipush 8, 2) := by decide +kernel
theorem d_SM_resultOf_69 : decode b_SM_resultOf 69 = .ok (.if_icmp .ne 21, 3) := by decide +kernel
theorem d_SM_resultOf_72 : decode b_SM_resultOf 72 = .ok (.aload_n 0, 1) := by decide +kernel
theorem d_SM_resultOf_73 : decode b_SM_resultOf 73 = .ok (.invokevirtual 34, 3) := by decide +kernel
theorem d_SM_resultOf_76 : decode b_SM_resultOf 76 = .ok (.ifCond .ne 8, 3) := by decide +kernel
theorem d_SM_resultOf_79 : decode b_SM_resultOf 79 = .ok (.iload 7, 2) := by decide +kernel
theorem d_SM_resultOf_81 : decode b_SM_resultOf 81 = .ok (.goto 4, 3) := by decide +kernel
theorem d_SM_resultOf_84 : decode b_SM_resultOf 84 = .ok (.iconst 0, 1) := by decide +kernel
theorem d_SM_resultOf_85 : decode b_SM_resultOf 85 = .ok (.istore 4, 2) := by decide +kernel
theorem d_SM_resultOf_87 : decode b_SM_resultOf 87 = .ok (.goto 58, 3) := by decide +kernel
theorem d_SM_resultOf_90 : decode b_SM_resultOf 90 = .ok (.iload 6, 2) := by decide +kernel
theorem d_SM_resultOf_92 : decode b_SM_resultOf 92 = .ok (.iconst 3, 1) := by decide +kernel
theorem d_SM_resultOf_93 : decode b_SM_resultOf 93 = .ok (.if_icmp .lt 38, 3) := by decide +kernel
theorem d_SM_resultOf_96 : decode b_SM_resultOf 96 = .ok (.iload 6, 2) := by decide +kernel
theorem d_SM_resultOf_98 : decode b_SM_resultOf 98 = .ok (.bipush 7, 2) := by decide +kernel
theorem d_SM_resultOf_100 : decode b_SM_resultOf 100 = .ok (.if_icmp .gt 31, 3) := by decide +kernel
theorem d_SM_resultOf_103 : decode b_SM_resultOf 103 = .ok (.aload_n 0, 1) := by decide +kernel
theorem d_SM_resultOf_104 : decode b_SM_resultOf 104 = .ok (.invokevirtual 34, 3) := by decide +kernel
theorem d_SM_resultOf_107 : decode b_SM_resultOf 107 = .ok (.istore 9, 2) := by decide +kernel
theorem d_SM_resultOf_109 : decode b_SM_resultOf 109 = .ok (.aload_n 0, 1) := by decide +kernel
theorem d_SM_resultOf_110 : decode b_SM_resultOf 110 = .ok (.invokevirtual 34, 3) := by decide +kernel
theorem d_SM_resultOf_113 : decode b_SM_resultOf 113 = .ok (.istore 10, 2) := by decide +kernel
theorem d_SM_resultOf_115 : decode b_SM_resultOf 115 = .ok (.aload_n 0, 1) := by decide +kernel
theorem d_SM_resultOf_116 : decode b_SM_resultOf 116 = .ok (.iload 6, 2) := by decide +kernel
theorem d_SM_resultOf_118 : decode b_SM_resultOf 118 = .ok (.iload 10, 2) := by decide +kernel
theorem d_SM_resultOf_120 : decode b_SM_resultOf 120 = .ok (.iload 9, 2) := by decide +kernel
theorem d_SM_resultOf_122 : decode b_SM_resultOf 122 = .ok (.invokestatic 38, 3) := by decide +kernel
theorem d_SM_resultOf_125 : decode b_SM_resultOf 125 = .ok (.invokevirtual 42, 3) := by decide +kernel
theorem d_SM_resultOf_128 : decode b_SM_resultOf 128 = .ok (.goto 17, 3) := by decide +kernel
theorem d_SM_resultOf_131 : decode b_SM_resultOf 131 = .ok (.aload_n 0, 1) := by decide +kernel
theorem d_SM_resultOf_132 : decode b_SM_resultOf 132 = .ok (.aload_n 0, 1) := by decide +kernel
theorem d_SM_resultOf_133 : decode b_SM_resultOf 133 = .ok (.iload 6, 2) := by decide +kernel
theorem d_SM_resultOf_135 : decode b_SM_resultOf 135 = .ok (.iload 7, 2) := by decide +kernel
theorem d_SM_resultOf_137 : decode b_SM_resultOf 137 = .ok (.aload_n 2, 1) := by decide +kernel
theorem d_SM_resultOf_138 : decode b_SM_resultOf 138 = .ok (.aload_n 3, 1) := by decide +kernel
theorem d_SM_resultOf_139 : decode b_SM_resultOf 139 = .ok (.invokevirtual 46, 3) := by decide +kernel
theorem d_SM_resultOf_142 : decode b_SM_resultOf 142 = .ok (.invokevirtual 42, 3) := by decide +kernel
theorem d_SM_resultOf_145 : decode b_SM_resultOf 145 = .ok (.iinc 5 1, 3) := by decide +kernel
theorem d_SM_resultOf_148 : decode b_SM_resultOf 148 = .ok (.goto (-137), 3) := by decide +kernel
theorem d_SM_resultOf_151 : decode b_SM_resultOf 151 = .ok (.aload_n 0, 1) := by decide +kernel
theorem d_SM_resultOf_152 : decode b_SM_resultOf 152 = .ok (.getfield 15, 3) := by decide +kernel
theorem d_SM_resultOf_155 : decode b_SM_resultOf 155 = .ok (.ifCond .ne 8, 3) := by decide +kernel
theorem d_SM_resultOf_158 : decode b_SM_resultOf 158 = .ok (.ldc 50, 2) := by decide +kernel
theorem d_SM_resultOf_160 : decode b_SM_resultOf 160 = .ok (.goto 14, 3) := by decide +kernel
theorem d_SM_resultOf_163 : decode b_SM_resultOf 163 = .ok (.aload_n 0, 1) := by decide +kernel
theorem d_SM_resultOf_164 : decode b_SM_resultOf 164 = .ok (.getfield 11, 3) := by decide +kernel
theorem d_SM_resultOf_167 : decode b_SM_resultOf 167 = .ok (.aload_n 0, 1) := by decide +kernel
theorem d_SM_resultOf_168 : decode b_SM_resultOf 168 = .ok (.getfield 15, 3) := by decide +kernel
theorem d_SM_resultOf_171 : decode b_SM_resultOf 171 = .ok (.iconst 1, 1) := by decide +kernel
theorem d_SM_resultOf_172 : decode b_SM_resultOf 172 = .ok (.isub, 1) := by decide +kernel
theorem d_SM_resultOf_173 : decode b_SM_resultOf 173 = .ok (.iaload, 1) := by decide +kernel
theorem d_SM_resultOf_174 : decode b_SM_resultOf 174 = .ok (.ireturn, 1) := by decide +kernel
theorem d_SM_refusalOf_0 : decode b_SM_refusalOf 0 = .ok (.aload_n 0, 1) := by decide +kernel
theorem d_SM_refusalOf_1 : decode b_SM_refusalOf 1 = .ok (.getfield 15, 3) := by decide +kernel
theorem d_SM_refusalOf_4 : decode b_SM_refusalOf 4 = .ok (.iload_n 1, 1) := by decide +kernel
theorem d_SM_refusalOf_5 : decode b_SM_refusalOf 5 = .ok (.invokestatic 51, 3) := by decide +kernel
theorem d_SM_refusalOf_8 : decode b_SM_refusalOf 8 = .ok (.if_icmp .ge 6, 3) := by decide +kernel
theorem d_SM_refusalOf_11 : decode b_SM_refusalOf 11 = .ok (.ldc 50, 2) := by decide +kernel
theorem d_SM_refusalOf_13 : decode b_SM_refusalOf 13 = .ok (.ireturn, 1) := by decide +kernel
theorem d_SM_refusalOf_14 : decode b_SM_refusalOf 14 = .ok (.iload_n 1, 1) := by decide +kernel
theorem d_SM_refusalOf_15 : decode b_SM_refusalOf 15 = .ok (.bipush 6, 2) := by decide +kernel
theorem d_SM_refusalOf_17 : decode b_SM_refusalOf 17 = .ok (.if_icmp .ne 20, 3) := by decide +kernel
theorem d_SM_refusalOf_20 : decode b_SM_refusalOf 20 = .ok (.aload_n 0, 1) := by decide +kernel
theorem d_SM_refusalOf_21 : decode b_SM_refusalOf 21 = .ok (.getfield 11, 3) := by decide +kernel
theorem d_SM_refusalOf_24 : decode b_SM_refusalOf 24 = .ok (.aload_n 0, 1) := by decide +kernel
theorem d_SM_refusalOf_25 : decode b_SM_refusalOf 25 = .ok (.getfield 15, 3) := by decide +kernel
theorem d_SM_refusalOf_28 : decode b_SM_refusalOf 28 = .ok (.iconst 1, 1) := by decide +kernel
theorem d_SM_refusalOf_29 : decode b_SM_refusalOf 29 = .ok (.isub, 1) := by decide +kernel
theorem d_SM_refusalOf_30 : decode b_SM_refusalOf 30 = .ok (.iaload, 1) := by decide +kernel
theorem d_SM_refusalOf_31 : decode b_SM_refusalOf 31 = .ok (.ifCond .ne 6, 3) := by decide +kernel
theorem d_SM_refusalOf_34 : decode b_SM_refusalOf 34 = .ok (.ldc 54, 2) := by decide +kernel
theorem d_SM_refusalOf_36 : decode b_SM_refusalOf 36 = .ok (.ireturn, 1) := by decide +kernel
theorem d_SM_refusalOf_37 : decode b_SM_refusalOf 37 = .ok (.iload_n 1, 1) := by decide +kernel
theorem d_SM_refusalOf_38 : decode b_SM_refusalOf 38 = .ok (.iconst 2, 1) := by decide +kernel
theorem d_SM_refusalOf_39 : decode b_SM_refusalOf 39 = .ok (.if_icmp .le 9, 3) := by decide +kernel
theorem d_SM_refusalOf_42 : decode b_SM_refusalOf 42 = .ok (.iload_n 1, 1) := by decide +kernel
theorem d_SM_refusalOf_43 : decode b_SM_refusalOf 43 = .ok (.bipush 9, 2) := by decide +kernel
theorem d_SM_refusalOf_45 : decode b_SM_refusalOf 45 = .ok (.if_icmp .ne 7, 3) := by decide +kernel
theorem d_SM_refusalOf_48 : decode b_SM_refusalOf 48 = .ok (.iconst 1, 1) := by decide +kernel
theorem d_SM_refusalOf_49 : decode b_SM_refusalOf 49 = .ok (.goto 4, 3) := by decide +kernel
theorem d_SM_refusalOf_52 : decode b_SM_refusalOf 52 = .ok (.iconst 0, 1) := by decide +kernel
theorem d_SM_refusalOf_53 : decode b_SM_refusalOf 53 = .ok (.istore_n 2, 1) := by decide +kernel
theorem d_SM_refusalOf_54 : decode b_SM_refusalOf 54 = .ok (.iload_n 2, 1) := by decide +kernel
theorem d_SM_refusalOf_55 : decode b_SM_refusalOf 55 = .ok (.ifCond .eq 17, 3) := by decide +kernel
theorem d_SM_refusalOf_58 : decode b_SM_refusalOf 58 = .ok (.aload_n 0, 1) := by decide +kernel
theorem d_SM_refusalOf_59 : decode b_SM_refusalOf 59 = .ok (.getfield 15, 3) := by decide +kernel
theorem d_SM_refusalOf_62 : decode b_SM_refusalOf 62 = .ok (.bipush 6, 2) := by decide +kernel
theorem d_SM_refusalOf_64 : decode b_SM_refusalOf 64 = .ok (.if_icmp .lt 8, 3) := by decide +kernel
theorem d_SM_refusalOf_67 : decode b_SM_refusalOf 67 = .ok (.ldc 55, 2) := by decide +kernel
theorem d_SM_refusalOf_69 : decode b_SM_refusalOf 69 = .ok (.goto 4, 3) := by decide +kernel
theorem d_SM_refusalOf_72 : decode b_SM_refusalOf 72 = .ok (.iconst 0, 1) := by decide +kernel
theorem d_SM_refusalOf_73 : decode b_SM_refusalOf 73 = .ok (.ireturn, 1) := by decide +kernel
theorem d_SM_needs_0 : decode b_SM_needs 0 = .ok (.iload_n 0, 1) := by decide +kernel
theorem d_SM_needs_1 : decode b_SM_needs 1 = .ok (.iconst 3, 1) := by decide +kernel
theorem d_SM_needs_2 : decode b_SM_needs 2 = .ok (.if_icmp .lt 11, 3) := by decide +kernel
theorem d_SM_needs_5 : decode b_SM_needs 5 = .ok (.iload_n 0, 1) := by decide +kernel
theorem d_SM_needs_6 : decode b_SM_needs 6 = .ok (.bipush 7, 2) := by decide +kernel
theorem d_SM_needs_8 : decode b_SM_needs 8 = .ok (.if_icmp .gt 5, 3) := by decide +kernel
theorem d_SM_needs_11 : decode b_SM_needs 11 = .ok (.iconst 2, 1) := by decide +kernel
theorem d_SM_needs_12 : decode b_SM_needs 12 = .ok (.ireturn, 1) := by decide +kernel
theorem d_SM_needs_13 : decode b_SM_needs 13 = .ok (.iload_n 0, 1) := by decide +kernel
theorem d_SM_needs_14 : decode b_SM_needs 14 = .ok (.bipush 8, 2) := by decide +kernel
theorem d_SM_needs_16 : decode b_SM_needs 16 = .ok (.if_icmp .eq 9, 3) := by decide +kernel
theorem d_SM_needs_19 : decode b_SM_needs 19 = .ok (.iload_n 0, 1) := by decide +kernel
theorem d_SM_needs_20 : decode b_SM_needs 20 = .ok (.bipush 9, 2) := by decide +kernel
theorem d_SM_needs_22 : decode b_SM_needs 22 = .ok (.if_icmp .ne 7, 3) := by decide +kernel
theorem d_SM_needs_25 : decode b_SM_needs 25 = .ok (.iconst 1, 1) := by decide +kernel
theorem d_SM_needs_26 : decode b_SM_needs 26 = .ok (.goto 4, 3) := by decide +kernel
theorem d_SM_needs_29 : decode b_SM_needs 29 = .ok (.iconst 0, 1) := by decide +kernel
theorem d_SM_needs_30 : decode b_SM_needs 30 = .ok (.ireturn, 1) := by decide +kernel
theorem d_SM_pop_0 : decode b_SM_pop 0 = .ok (.aload_n 0, 1) := by decide +kernel
theorem d_SM_pop_1 : decode b_SM_pop 1 = .ok (.dup, 1) := by decide +kernel
theorem d_SM_pop_2 : decode b_SM_pop 2 = .ok (.getfield 15, 3) := by decide +kernel
theorem d_SM_pop_5 : decode b_SM_pop 5 = .ok (.iconst 1, 1) := by decide +kernel
theorem d_SM_pop_6 : decode b_SM_pop 6 = .ok (.isub, 1) := by decide +kernel
theorem d_SM_pop_7 : decode b_SM_pop 7 = .ok (.putfield 15, 3) := by decide +kernel
theorem d_SM_pop_10 : decode b_SM_pop 10 = .ok (.aload_n 0, 1) := by decide +kernel
theorem d_SM_pop_11 : decode b_SM_pop 11 = .ok (.getfield 11, 3) := by decide +kernel
theorem d_SM_pop_14 : decode b_SM_pop 14 = .ok (.aload_n 0, 1) := by decide +kernel
theorem d_SM_pop_15 : decode b_SM_pop 15 = .ok (.getfield 15, 3) := by decide +kernel
theorem d_SM_pop_18 : decode b_SM_pop 18 = .ok (.iaload, 1) := by decide +kernel
theorem d_SM_pop_19 : decode b_SM_pop 19 = .ok (.ireturn, 1) := by decide +kernel
theorem d_SM_combine_0 : decode b_SM_combine 0 = .ok (.iload_n 0, 1) := by decide +kernel
theorem d_SM_combine_1 : decode b_SM_combine 1 = .ok (.tableswitch 58 3 6 #[31, 35, 39, 43], 31) := by decide +kernel
theorem d_SM_combine_32 : decode b_SM_combine 32 = .ok (.iload_n 1, 1) := by decide +kernel
theorem d_SM_combine_33 : decode b_SM_combine 33 = .ok (.iload_n 2, 1) := by decide +kernel
theorem d_SM_combine_34 : decode b_SM_combine 34 = .ok (.iadd, 1) := by decide +kernel
theorem d_SM_combine_35 : decode b_SM_combine 35 = .ok (.ireturn, 1) := by decide +kernel
theorem d_SM_combine_36 : decode b_SM_combine 36 = .ok (.iload_n 1, 1) := by decide +kernel
theorem d_SM_combine_37 : decode b_SM_combine 37 = .ok (.iload_n 2, 1) := by decide +kernel
theorem d_SM_combine_38 : decode b_SM_combine 38 = .ok (.isub, 1) := by decide +kernel
theorem d_SM_combine_39 : decode b_SM_combine 39 = .ok (.ireturn, 1) := by decide +kernel
theorem d_SM_combine_40 : decode b_SM_combine 40 = .ok (.iload_n 1, 1) := by decide +kernel
theorem d_SM_combine_41 : decode b_SM_combine 41 = .ok (.iload_n 2, 1) := by decide +kernel
theorem d_SM_combine_42 : decode b_SM_combine 42 = .ok (.imul, 1) := by decide +kernel
theorem d_SM_combine_43 : decode b_SM_combine 43 = .ok (.ireturn, 1) := by decide +kernel
theorem d_SM_combine_44 : decode b_SM_combine 44 = .ok (.iload_n 2, 1) := by decide +kernel
theorem d_SM_combine_45 : decode b_SM_combine 45 = .ok (.ifCond .ne 8, 3) := by decide +kernel
theorem d_SM_combine_48 : decode b_SM_combine 48 = .ok (.ldc 54, 2) := by decide +kernel
theorem d_SM_combine_50 : decode b_SM_combine 50 = .ok (.goto 8, 3) := by decide +kernel
theorem d_SM_combine_53 : decode b_SM_combine 53 = .ok (.iload_n 1, 1) := by decide +kernel
theorem d_SM_combine_54 : decode b_SM_combine 54 = .ok (.iload_n 2, 1) := by decide +kernel
theorem d_SM_combine_55 : decode b_SM_combine 55 = .ok (.invokestatic 56, 3) := by decide +kernel
theorem d_SM_combine_58 : decode b_SM_combine 58 = .ok (.ireturn, 1) := by decide +kernel
theorem d_SM_combine_59 : decode b_SM_combine 59 = .ok (.iload_n 1, 1) := by decide +kernel
theorem d_SM_combine_60 : decode b_SM_combine 60 = .ok (.iload_n 2, 1) := by decide +kernel
theorem d_SM_combine_61 : decode b_SM_combine 61 = .ok (.if_icmp .ge 7, 3) := by decide +kernel
theorem d_SM_combine_64 : decode b_SM_combine 64 = .ok (.iconst 1, 1) := by decide +kernel
theorem d_SM_combine_65 : decode b_SM_combine 65 = .ok (.goto 4, 3) := by decide +kernel
theorem d_SM_combine_68 : decode b_SM_combine 68 = .ok (.iconst 0, 1) := by decide +kernel
theorem d_SM_combine_69 : decode b_SM_combine 69 = .ok (.ireturn, 1) := by decide +kernel
theorem d_SM_push_0 : decode b_SM_push 0 = .ok (.aload_n 0, 1) := by decide +kernel
theorem d_SM_push_1 : decode b_SM_push 1 = .ok (.getfield 11, 3) := by decide +kernel
theorem d_SM_push_4 : decode b_SM_push 4 = .ok (.aload_n 0, 1) := by decide +kernel
theorem d_SM_push_5 : decode b_SM_push 5 = .ok (.getfield 15, 3) := by decide +kernel
theorem d_SM_push_8 : decode b_SM_push 8 = .ok (.iload_n 1, 1) := by decide +kernel
theorem d_SM_push_9 : decode b_SM_push 9 = .ok (.iastore, 1) := by decide +kernel
theorem d_SM_push_10 : decode b_SM_push 10 = .ok (.aload_n 0, 1) := by decide +kernel
theorem d_SM_push_11 : decode b_SM_push 11 = .ok (.dup, 1) := by decide +kernel
theorem d_SM_push_12 : decode b_SM_push 12 = .ok (.getfield 15, 3) := by decide +kernel
theorem d_SM_push_15 : decode b_SM_push 15 = .ok (.iconst 1, 1) := by decide +kernel
theorem d_SM_push_16 : decode b_SM_push 16 = .ok (.iadd, 1) := by decide +kernel
theorem d_SM_push_17 : decode b_SM_push 17 = .ok (.putfield 15, 3) := by decide +kernel
theorem d_SM_push_20 : decode b_SM_push 20 = .ok (.return_, 1) := by decide +kernel
theorem d_SM_fetch_0 : decode b_SM_fetch 0 = .ok (.iload_n 1, 1) := by decide +kernel
theorem d_SM_fetch_1 : decode b_SM_fetch 1 = .ok (.lookupswitch 56 #[(1, 35), (2, 39), (9, 44)], 35) := by decide +kernel
theorem d_SM_fetch_36 : decode b_SM_fetch 36 = .ok (.aload_n 3, 1) := by decide +kernel
theorem d_SM_fetch_37 : decode b_SM_fetch 37 = .ok (.iload_n 2, 1) := by decide +kernel
theorem d_SM_fetch_38 : decode b_SM_fetch 38 = .ok (.iaload, 1) := by decide +kernel
theorem d_SM_fetch_39 : decode b_SM_fetch 39 = .ok (.ireturn, 1) := by decide +kernel
theorem d_SM_fetch_40 : decode b_SM_fetch 40 = .ok (.aload 4, 2) := by decide +kernel
theorem d_SM_fetch_42 : decode b_SM_fetch 42 = .ok (.iload_n 2, 1) := by decide +kernel
theorem d_SM_fetch_43 : decode b_SM_fetch 43 = .ok (.iaload, 1) := by decide +kernel
theorem d_SM_fetch_44 : decode b_SM_fetch 44 = .ok (.ireturn, 1) := by decide +kernel
theorem d_SM_fetch_45 : decode b_SM_fetch 45 = .ok (.aload_n 0, 1) := by decide +kernel
theorem d_SM_fetch_46 : decode b_SM_fetch 46 = .ok (.getfield 11, 3) := by decide +kernel
theorem d_SM_fetch_49 : decode b_SM_fetch 49 = .ok (.aload_n 0, 1) := by decide +kernel
theorem d_SM_fetch_50 : decode b_SM_fetch 50 = .ok (.getfield 15, 3) := by decide +kernel
theorem d_SM_fetch_53 : decode b_SM_fetch 53 = .ok (.iconst 1, 1) := by decide +kernel
theorem d_SM_fetch_54 : decode b_SM_fetch 54 = .ok (.isub, 1) := by decide +kernel
theorem d_SM_fetch_55 : decode b_SM_fetch 55 = .ok (.iaload, 1) := by decide +kernel
theorem d_SM_fetch_56 : decode b_SM_fetch 56 = .ok (.ireturn, 1) := by decide +kernel
theorem d_SM_fetch_57 : decode b_SM_fetch 57 = .ok (.iload_n 2, 1) := by decide +kernel
theorem d_SM_fetch_58 : decode b_SM_fetch 58 = .ok (.ireturn, 1) := by decide +kernel
theorem d_ND_accusersOf_0 : decode b_ND_accusersOf 0 = .ok (.iconst 0, 1) := by decide +kernel
theorem d_ND_accusersOf_1 : decode b_ND_accusersOf 1 = .ok (.istore_n 2, 1) := by decide +kernel
theorem d_ND_accusersOf_2 : decode b_ND_accusersOf 2 = .ok (.iconst 0, 1) := by decide +kernel
theorem d_ND_accusersOf_3 : decode b_ND_accusersOf 3 = .ok (.istore_n 3, 1) := by decide +kernel
theorem d_ND_accusersOf_4 : decode b_ND_accusersOf 4 = .ok (.iload_n 3, 1) := by decide +kernel
theorem d_ND_accusersOf_5 : decode b_ND_accusersOf 5 = .ok (.aload_n 0, 1) := by decide +kernel
theorem d_ND_accusersOf_6 : decode b_ND_accusersOf 6 = .ok (.getfield 31, 3) := by decide +kernel
theorem d_ND_accusersOf_9 : decode b_ND_accusersOf 9 = .ok (.arraylength, 1) := by decide +kernel
theorem d_ND_accusersOf_10 : decode b_ND_accusersOf 10 = .ok (.if_icmp .ge 41, 3) := by decide +kernel
theorem d_ND_accusersOf_13 : decode b_ND_accusersOf 13 = .ok (.iload_n 3, 1) := by decide +kernel
theorem d_ND_accusersOf_14 : decode b_ND_accusersOf 14 = .ok (.iload_n 1, 1) := by decide +kernel
theorem d_ND_accusersOf_15 : decode b_ND_accusersOf 15 = .ok (.if_icmp .eq 30, 3) := by decide +kernel
theorem d_ND_accusersOf_18 : decode b_ND_accusersOf 18 = .ok (.aload_n 0, 1) := by decide +kernel
theorem d_ND_accusersOf_19 : decode b_ND_accusersOf 19 = .ok (.getfield 34, 3) := by decide +kernel
theorem d_ND_accusersOf_22 : decode b_ND_accusersOf 22 = .ok (.iload_n 3, 1) := by decide +kernel
theorem d_ND_accusersOf_23 : decode b_ND_accusersOf 23 = .ok (.invokestatic 53, 3) := by decide +kernel
theorem d_ND_accusersOf_26 : decode b_ND_accusersOf 26 = .ok (.ifCond .eq 19, 3) := by decide +kernel
theorem d_ND_accusersOf_29 : decode b_ND_accusersOf 29 = .ok (.aload_n 0, 1) := by decide +kernel
theorem d_ND_accusersOf_30 : decode b_ND_accusersOf 30 = .ok (.getfield 31, 3) := by decide +kernel
theorem d_ND_accusersOf_33 : decode b_ND_accusersOf 33 = .ok (.iload_n 3, 1) := by decide +kernel
theorem d_ND_accusersOf_34 : decode b_ND_accusersOf 34 = .ok (.iaload, 1) := by decide +kernel
theorem d_ND_accusersOf_35 : decode b_ND_accusersOf 35 = .ok (.iload_n 1, 1) := by decide +kernel
theorem d_ND_accusersOf_36 : decode b_ND_accusersOf 36 = .ok (.invokestatic 53, 3) := by decide +kernel
theorem d_ND_accusersOf_39 : decode b_ND_accusersOf 39 = .ok (.ifCond .eq 6, 3) := by decide +kernel
theorem d_ND_accusersOf_42 : decode b_ND_accusersOf 42 = .ok (.iinc 2 1, 3) := by decide +kernel
theorem d_ND_accusersOf_45 : decode b_ND_accusersOf 45 = .ok (.iinc 3 1, 3) := by decide +kernel
theorem d_ND_accusersOf_48 : decode b_ND_accusersOf 48 = .ok (.goto (-44), 3) := by decide +kernel
theorem d_ND_accusersOf_51 : decode b_ND_accusersOf 51 = .ok (.iload_n 2, 1) := by decide +kernel
theorem d_ND_accusersOf_52 : decode b_ND_accusersOf 52 = .ok (.ireturn, 1) := by decide +kernel
theorem d_ND_differenceTo_0 : decode b_ND_differenceTo 0 = .ok (.aload_n 1, 1) := by decide +kernel
theorem d_ND_differenceTo_1 : decode b_ND_differenceTo 1 = .ok (.aload_n 0, 1) := by decide +kernel
theorem d_ND_differenceTo_2 : decode b_ND_differenceTo 2 = .ok (.getfield 19, 3) := by decide +kernel
theorem d_ND_differenceTo_5 : decode b_ND_differenceTo 5 = .ok (.invokevirtual 70, 3) := by decide +kernel
theorem d_ND_differenceTo_8 : decode b_ND_differenceTo 8 = .ok (.aload_n 0, 1) := by decide +kernel
theorem d_ND_differenceTo_9 : decode b_ND_differenceTo 9 = .ok (.getfield 25, 3) := by decide +kernel
theorem d_ND_differenceTo_12 : decode b_ND_differenceTo 12 = .ok (.aload_n 1, 1) := by decide +kernel
theorem d_ND_differenceTo_13 : decode b_ND_differenceTo 13 = .ok (.getfield 19, 3) := by decide +kernel
theorem d_ND_differenceTo_16 : decode b_ND_differenceTo 16 = .ok (.iaload, 1) := by decide +kernel
theorem d_ND_differenceTo_17 : decode b_ND_differenceTo 17 = .ok (.iadd, 1) := by decide +kernel
theorem d_ND_differenceTo_18 : decode b_ND_differenceTo 18 = .ok (.aload_n 0, 1) := by decide +kernel
theorem d_ND_differenceTo_19 : decode b_ND_differenceTo 19 = .ok (.getfield 57, 3) := by decide +kernel
theorem d_ND_differenceTo_22 : decode b_ND_differenceTo 22 = .ok (.isub, 1) := by decide +kernel
theorem d_ND_differenceTo_23 : decode b_ND_differenceTo 23 = .ok (.ireturn, 1) := by decide +kernel
theorem d_ND_shows_0 : decode b_ND_shows 0 = .ok (.aload_n 0, 1) := by decide +kernel
theorem d_ND_shows_1 : decode b_ND_shows 1 = .ok (.getfield 15, 3) := by decide +kernel
theorem d_ND_shows_4 : decode b_ND_shows 4 = .ok (.iconst 5, 1) := by decide +kernel
theorem d_ND_shows_5 : decode b_ND_shows 5 = .ok (.if_icmp .ne 10, 3) := by decide +kernel
theorem d_ND_shows_8 : decode b_ND_shows 8 = .ok (.aload_n 0, 1) := by decide +kernel
theorem d_ND_shows_9 : decode b_ND_shows 9 = .ok (.getfield 57, 3) := by decide +kernel
theorem d_ND_shows_12 : decode b_ND_shows 12 = .ok (.goto 13, 3) := by decide +kernel
theorem d_ND_shows_15 : decode b_ND_shows 15 = .ok (.aload_n 0, 1) := by decide +kernel
theorem d_ND_shows_16 : decode b_ND_shows 16 = .ok (.aload_n 0, 1) := by decide +kernel
theorem d_ND_shows_17 : decode b_ND_shows 17 = .ok (.getfield 57, 3) := by decide +kernel
theorem d_ND_shows_20 : decode b_ND_shows 20 = .ok (.iload_n 1, 1) := by decide +kernel
theorem d_ND_shows_21 : decode b_ND_shows 21 = .ok (.iconst 0, 1) := by decide +kernel
theorem d_ND_shows_22 : decode b_ND_shows 22 = .ok (.invokevirtual 66, 3) := by decide +kernel
theorem d_ND_shows_25 : decode b_ND_shows 25 = .ok (.ireturn, 1) := by decide +kernel
theorem d_ND_holdsTheSameAs_0 : decode b_ND_holdsTheSameAs 0 = .ok (.aload_n 0, 1) := by decide +kernel
theorem d_ND_holdsTheSameAs_1 : decode b_ND_holdsTheSameAs 1 = .ok (.getfield 34, 3) := by decide +kernel
theorem d_ND_holdsTheSameAs_4 : decode b_ND_holdsTheSameAs 4 = .ok (.aload_n 1, 1) := by decide +kernel
theorem d_ND_holdsTheSameAs_5 : decode b_ND_holdsTheSameAs 5 = .ok (.getfield 34, 3) := by decide +kernel
theorem d_ND_holdsTheSameAs_8 : decode b_ND_holdsTheSameAs 8 = .ok (.if_icmp .ne 35, 3) := by decide +kernel
theorem d_ND_holdsTheSameAs_11 : decode b_ND_holdsTheSameAs 11 = .ok (.aload_n 0, 1) := by decide +kernel
theorem d_ND_holdsTheSameAs_12 : decode b_ND_holdsTheSameAs 12 = .ok (.getfield 9, 3) := by decide +kernel
theorem d_ND_holdsTheSameAs_15 : decode b_ND_holdsTheSameAs 15 = .ok (.aload_n 1, 1) := by decide +kernel
theorem d_ND_holdsTheSameAs_16 : decode b_ND_holdsTheSameAs 16 = .ok (.getfield 9, 3) := by decide +kernel
theorem d_ND_holdsTheSameAs_19 : decode b_ND_holdsTheSameAs 19 = .ok (.invokestatic 73, 3) := by decide +kernel
theorem d_ND_holdsTheSameAs_22 : decode b_ND_holdsTheSameAs 22 = .ok (.ifCond .eq 21, 3) := by decide +kernel
theorem d_ND_holdsTheSameAs_25 : decode b_ND_holdsTheSameAs 25 = .ok (.aload_n 0, 1) := by decide +kernel
theorem d_ND_holdsTheSameAs_26 : decode b_ND_holdsTheSameAs 26 = .ok (.getfield 28, 3) := by decide +kernel
theorem d_ND_holdsTheSameAs_29 : decode b_ND_holdsTheSameAs 29 = .ok (.aload_n 1, 1) := by decide +kernel
theorem d_ND_holdsTheSameAs_30 : decode b_ND_holdsTheSameAs 30 = .ok (.getfield 28, 3) := by decide +kernel
theorem d_ND_holdsTheSameAs_33 : decode b_ND_holdsTheSameAs 33 = .ok (.invokestatic 73, 3) := by decide +kernel
theorem d_ND_holdsTheSameAs_36 : decode b_ND_holdsTheSameAs 36 = .ok (.ifCond .eq 7, 3) := by decide +kernel
theorem d_ND_holdsTheSameAs_39 : decode b_ND_holdsTheSameAs 39 = .ok (.iconst 1, 1) := by decide +kernel
theorem d_ND_holdsTheSameAs_40 : decode b_ND_holdsTheSameAs 40 = .ok (.goto 4, 3) := by decide +kernel
theorem d_ND_holdsTheSameAs_43 : decode b_ND_holdsTheSameAs 43 = .ok (.iconst 0, 1) := by decide +kernel
theorem d_ND_holdsTheSameAs_44 : decode b_ND_holdsTheSameAs 44 = .ok (.ireturn, 1) := by decide +kernel
theorem d_ND_sameRow_0 : decode b_ND_sameRow 0 = .ok (.iconst 0, 1) := by decide +kernel
theorem d_ND_sameRow_1 : decode b_ND_sameRow 1 = .ok (.istore_n 2, 1) := by decide +kernel
theorem d_ND_sameRow_2 : decode b_ND_sameRow 2 = .ok (.iload_n 2, 1) := by decide +kernel
theorem d_ND_sameRow_3 : decode b_ND_sameRow 3 = .ok (.aload_n 0, 1) := by decide +kernel
theorem d_ND_sameRow_4 : decode b_ND_sameRow 4 = .ok (.arraylength, 1) := by decide +kernel
theorem d_ND_sameRow_5 : decode b_ND_sameRow 5 = .ok (.if_icmp .ge 26, 3) := by decide +kernel
theorem d_ND_sameRow_8 : decode b_ND_sameRow 8 = .ok (.iload_n 2, 1) := by decide +kernel
theorem d_ND_sameRow_9 : decode b_ND_sameRow 9 = .ok (.aload_n 1, 1) := by decide +kernel
theorem d_ND_sameRow_10 : decode b_ND_sameRow 10 = .ok (.arraylength, 1) := by decide +kernel
theorem d_ND_sameRow_11 : decode b_ND_sameRow 11 = .ok (.if_icmp .ge 20, 3) := by decide +kernel
theorem d_ND_sameRow_14 : decode b_ND_sameRow 14 = .ok (.aload_n 0, 1) := by decide +kernel
theorem d_ND_sameRow_15 : decode b_ND_sameRow 15 = .ok (.iload_n 2, 1) := by decide +kernel
theorem d_ND_sameRow_16 : decode b_ND_sameRow 16 = .ok (.iaload, 1) := by decide +kernel
theorem d_ND_sameRow_17 : decode b_ND_sameRow 17 = .ok (.aload_n 1, 1) := by decide +kernel
theorem d_ND_sameRow_18 : decode b_ND_sameRow 18 = .ok (.iload_n 2, 1) := by decide +kernel
theorem d_ND_sameRow_19 : decode b_ND_sameRow 19 = .ok (.iaload, 1) := by decide +kernel
theorem d_ND_sameRow_20 : decode b_ND_sameRow 20 = .ok (.if_icmp .eq 5, 3) := by decide +kernel
theorem d_ND_sameRow_23 : decode b_ND_sameRow 23 = .ok (.iconst 0, 1) := by decide +kernel
theorem d_ND_sameRow_24 : decode b_ND_sameRow 24 = .ok (.ireturn, 1) := by decide +kernel
theorem d_ND_sameRow_25 : decode b_ND_sameRow 25 = .ok (.iinc 2 1, 3) := by decide +kernel
theorem d_ND_sameRow_28 : decode b_ND_sameRow 28 = .ok (.goto (-26), 3) := by decide +kernel
theorem d_ND_sameRow_31 : decode b_ND_sameRow 31 = .ok (.iconst 1, 1) := by decide +kernel
theorem d_ND_sameRow_32 : decode b_ND_sameRow 32 = .ok (.ireturn, 1) := by decide +kernel
end
section
theorem d_MD_init_0 : decode b_MD_init 0 = .ok (.aload_n 0, 1) := by decide +kernel
theorem d_MD_init_1 : decode b_MD_init 1 = .ok (.invokespecial 1, 3) := by decide +kernel
theorem d_MD_init_4 : decode b_MD_init 4 = .ok (.aload_n 0, 1) := by decide +kernel
theorem d_MD_init_5 : decode b_MD_init 5 = .ok (.bipush 7, 2) := by decide +kernel
theorem d_MD_init_7 : decode b_MD_init 7 = .ok (.newarray .int, 2) := by decide +kernel
theorem d_MD_init_9 : decode b_MD_init 9 = .ok (.putfield 7, 3) := by decide +kernel
theorem d_MD_init_12 : decode b_MD_init 12 = .ok (.aload_n 0, 1) := by decide +kernel
theorem d_MD_init_13 : decode b_MD_init 13 = .ok (.bipush 7, 2) := by decide +kernel
theorem d_MD_init_15 : decode b_MD_init 15 = .ok (.newarray .int, 2) := by decide +kernel
theorem d_MD_init_17 : decode b_MD_init 17 = .ok (.putfield 13, 3) := by decide +kernel
theorem d_MD_init_20 : decode b_MD_init 20 = .ok (.aload_n 0, 1) := by decide +kernel
theorem d_MD_init_21 : decode b_MD_init 21 = .ok (.bipush 7, 2) := by decide +kernel
theorem d_MD_init_23 : decode b_MD_init 23 = .ok (.newarray .int, 2) := by decide +kernel
theorem d_MD_init_25 : decode b_MD_init 25 = .ok (.putfield 16, 3) := by decide +kernel
theorem d_MD_init_28 : decode b_MD_init 28 = .ok (.aload_n 0, 1) := by decide +kernel
theorem d_MD_init_29 : decode b_MD_init 29 = .ok (.bipush 7, 2) := by decide +kernel
theorem d_MD_init_31 : decode b_MD_init 31 = .ok (.newarray .int, 2) := by decide +kernel
theorem d_MD_init_33 : decode b_MD_init 33 = .ok (.putfield 19, 3) := by decide +kernel
theorem d_MD_init_36 : decode b_MD_init 36 = .ok (.aload_n 0, 1) := by decide +kernel
theorem d_MD_init_37 : decode b_MD_init 37 = .ok (.bipush 7, 2) := by decide +kernel
theorem d_MD_init_39 : decode b_MD_init 39 = .ok (.newarray .int, 2) := by decide +kernel
theorem d_MD_init_41 : decode b_MD_init 41 = .ok (.putfield 22, 3) := by decide +kernel
theorem d_MD_init_44 : decode b_MD_init 44 = .ok (.aload_n 0, 1) := by decide +kernel
theorem d_MD_init_45 : decode b_MD_init 45 = .ok (.bipush 7, 2) := by decide +kernel
theorem d_MD_init_47 : decode b_MD_init 47 = .ok (.newarray .int, 2) := by decide +kernel
theorem d_MD_init_49 : decode b_MD_init 49 = .ok (.putfield 25, 3) := by decide +kernel
theorem d_MD_init_52 : decode b_MD_init 52 = .ok (.aload_n 0, 1) := by decide +kernel
theorem d_MD_init_53 : decode b_MD_init 53 = .ok (.bipush 7, 2) := by decide +kernel
theorem d_MD_init_55 : decode b_MD_init 55 = .ok (.newarray .int, 2) := by decide +kernel
theorem d_MD_init_57 : decode b_MD_init 57 = .ok (.putfield 28, 3) := by decide +kernel
theorem d_MD_init_60 : decode b_MD_init 60 = .ok (.aload_n 0, 1) := by decide +kernel
theorem d_MD_init_61 : decode b_MD_init 61 = .ok (.bipush 7, 2) := by decide +kernel
theorem d_MD_init_63 : decode b_MD_init 63 = .ok (.newarray .int, 2) := by decide +kernel
theorem d_MD_init_65 : decode b_MD_init 65 = .ok (.putfield 31, 3) := by decide +kernel
theorem d_MD_init_68 : decode b_MD_init 68 = .ok (.aload_n 0, 1) := by decide +kernel
theorem d_MD_init_69 : decode b_MD_init 69 = .ok (.bipush 7, 2) := by decide +kernel
theorem d_MD_init_71 : decode b_MD_init 71 = .ok (.newarray .int, 2) := by decide +kernel
theorem d_MD_init_73 : decode b_MD_init 73 = .ok (.putfield 34, 3) := by decide +kernel
theorem d_MD_init_76 : decode b_MD_init 76 = .ok (.aload_n 0, 1) := by decide +kernel
theorem d_MD_init_77 : decode b_MD_init 77 = .ok (.bipush 32, 2) := by decide +kernel
theorem d_MD_init_79 : decode b_MD_init 79 = .ok (.newarray .int, 2) := by decide +kernel
theorem d_MD_init_81 : decode b_MD_init 81 = .ok (.putfield 37, 3) := by decide +kernel
theorem d_MD_init_84 : decode b_MD_init 84 = .ok (.aload_n 0, 1) := by decide +kernel
theorem d_MD_init_85 : decode b_MD_init 85 = .ok (.bipush 56, 2) := by decide +kernel
theorem d_MD_init_87 : decode b_MD_init 87 = .ok (.newarray .int, 2) := by decide +kernel
theorem d_MD_init_89 : decode b_MD_init 89 = .ok (.putfield 40, 3) := by decide +kernel
theorem d_MD_init_92 : decode b_MD_init 92 = .ok (.aload_n 0, 1) := by decide +kernel
theorem d_MD_init_93 : decode b_MD_init 93 = .ok (.bipush 49, 2) := by decide +kernel
theorem d_MD_init_95 : decode b_MD_init 95 = .ok (.newarray .int, 2) := by decide +kernel
theorem d_MD_init_97 : decode b_MD_init 97 = .ok (.putfield 43, 3) := by decide +kernel
theorem d_MD_init_100 : decode b_MD_init 100 = .ok (.aload_n 0, 1) := by decide +kernel
theorem d_MD_init_101 : decode b_MD_init 101 = .ok (.bipush 49, 2) := by decide +kernel
theorem d_MD_init_103 : decode b_MD_init 103 = .ok (.newarray .int, 2) := by decide +kernel
theorem d_MD_init_105 : decode b_MD_init 105 = .ok (.putfield 46, 3) := by decide +kernel
theorem d_MD_init_108 : decode b_MD_init 108 = .ok (.aload_n 0, 1) := by decide +kernel
theorem d_MD_init_109 : decode b_MD_init 109 = .ok (.bipush 49, 2) := by decide +kernel
theorem d_MD_init_111 : decode b_MD_init 111 = .ok (.newarray .int, 2) := by decide +kernel
theorem d_MD_init_113 : decode b_MD_init 113 = .ok (.putfield 49, 3) := by decide +kernel
theorem d_MD_init_116 : decode b_MD_init 116 = .ok (.aload_n 0, 1) := by decide +kernel
theorem d_MD_init_117 : decode b_MD_init 117 = .ok (.bipush 48, 2) := by decide +kernel
theorem d_MD_init_119 : decode b_MD_init 119 = .ok (.newarray .int, 2) := by decide +kernel
theorem d_MD_init_121 : decode b_MD_init 121 = .ok (.putfield 52, 3) := by decide +kernel
theorem d_MD_init_124 : decode b_MD_init 124 = .ok (.aload_n 0, 1) := by decide +kernel
theorem d_MD_init_125 : decode b_MD_init 125 = .ok (.bipush 48, 2) := by decide +kernel
theorem d_MD_init_127 : decode b_MD_init 127 = .ok (.newarray .int, 2) := by decide +kernel
theorem d_MD_init_129 : decode b_MD_init 129 = .ok (.putfield 55, 3) := by decide +kernel
theorem d_MD_init_132 : decode b_MD_init 132 = .ok (.aload_n 0, 1) := by decide +kernel
theorem d_MD_init_133 : decode b_MD_init 133 = .ok (.iconst 4, 1) := by decide +kernel
theorem d_MD_init_134 : decode b_MD_init 134 = .ok (.newarray .int, 2) := by decide +kernel
theorem d_MD_init_136 : decode b_MD_init 136 = .ok (.putfield 58, 3) := by decide +kernel
theorem d_MD_init_139 : decode b_MD_init 139 = .ok (.aload_n 0, 1) := by decide +kernel
theorem d_MD_init_140 : decode b_MD_init 140 = .ok (.iconst 4, 1) := by decide +kernel
theorem d_MD_init_141 : decode b_MD_init 141 = .ok (.newarray .int, 2) := by decide +kernel
theorem d_MD_init_143 : decode b_MD_init 143 = .ok (.putfield 61, 3) := by decide +kernel
theorem d_MD_init_146 : decode b_MD_init 146 = .ok (.aload_n 0, 1) := by decide +kernel
theorem d_MD_init_147 : decode b_MD_init 147 = .ok (.iconst 4, 1) := by decide +kernel
theorem d_MD_init_148 : decode b_MD_init 148 = .ok (.newarray .int, 2) := by decide +kernel
theorem d_MD_init_150 : decode b_MD_init 150 = .ok (.putfield 64, 3) := by decide +kernel
theorem d_MD_init_153 : decode b_MD_init 153 = .ok (.aload_n 0, 1) := by decide +kernel
theorem d_MD_init_154 : decode b_MD_init 154 = .ok (.bipush 6, 2) := by decide +kernel
theorem d_MD_init_156 : decode b_MD_init 156 = .ok (.newarray .int, 2) := by decide +kernel
theorem d_MD_init_158 : decode b_MD_init 158 = .ok (.putfield 67, 3) := by decide +kernel
theorem d_MD_init_161 : decode b_MD_init 161 = .ok (.aload_n 0, 1) := by decide +kernel
theorem d_MD_init_162 : decode b_MD_init 162 = .ok (.bipush 16, 2) := by decide +kernel
theorem d_MD_init_164 : decode b_MD_init 164 = .ok (.newarray .int, 2) := by decide +kernel
theorem d_MD_init_166 : decode b_MD_init 166 = .ok (.putfield 70, 3) := by decide +kernel
theorem d_MD_init_169 : decode b_MD_init 169 = .ok (.aload_n 0, 1) := by decide +kernel
theorem d_MD_init_170 : decode b_MD_init 170 = .ok (.iload_n 1, 1) := by decide +kernel
theorem d_MD_init_171 : decode b_MD_init 171 = .ok (.iconst 4, 1) := by decide +kernel
theorem d_MD_init_172 : decode b_MD_init 172 = .ok (.if_icmp .ge 7, 3) := by decide +kernel
theorem d_MD_init_175 : decode b_MD_init 175 = .ok (.iconst 4, 1) := by decide +kernel
theorem d_MD_init_176 : decode b_MD_init 176 = .ok (.goto 15, 3) := by decide +kernel
theorem d_MD_init_179 : decode b_MD_init 179 = .ok (.iload_n 1, 1) := by decide +kernel
theorem d_MD_init_180 : decode b_MD_init 180 = .ok (.bipush 7, 2) := by decide +kernel
theorem d_MD_init_182 : decode b_MD_init 182 = .ok (.if_icmp .le 8, 3) := by decide +kernel
theorem d_MD_init_185 : decode b_MD_init 185 = .ok (.bipush 7, 2) := by decide +kernel
theorem d_MD_init_187 : decode b_MD_init 187 = .ok (.goto 4, 3) := by decide +kernel
theorem d_MD_init_190 : decode b_MD_init 190 = .ok (.iload_n 1, 1) := by decide +kernel
theorem d_MD_init_191 : decode b_MD_init 191 = .ok (.putfield 73, 3) := by decide +kernel
theorem d_MD_init_194 : decode b_MD_init 194 = .ok (.aload_n 0, 1) := by decide +kernel
theorem d_MD_init_195 : decode b_MD_init 195 = .ok (.getfield 73, 3) := by decide +kernel
theorem d_MD_init_198 : decode b_MD_init 198 = .ok (.iconst 1, 1) := by decide +kernel
theorem d_MD_init_199 : decode b_MD_init 199 = .ok (.isub, 1) := by decide +kernel
theorem d_MD_init_200 : decode b_MD_init 200 = .ok (.iconst 3, 1) := by decide +kernel
theorem d_MD_init_201 : decode b_MD_init 201 = .ok (.idiv, 1) := by decide +kernel
theorem d_MD_init_202 : decode b_MD_init 202 = .ok (.istore 4, 2) := by decide +kernel
theorem d_MD_init_204 : decode b_MD_init 204 = .ok (.aload_n 0, 1) := by decide +kernel
theorem d_MD_init_205 : decode b_MD_init 205 = .ok (.iload_n 2, 1) := by decide +kernel
theorem d_MD_init_206 : decode b_MD_init 206 = .ok (.ifCond .lt 13, 3) := by decide +kernel
theorem d_MD_init_209 : decode b_MD_init 209 = .ok (.iload_n 2, 1) := by decide +kernel
theorem d_MD_init_210 : decode b_MD_init 210 = .ok (.iload 4, 2) := by decide +kernel
theorem d_MD_init_212 : decode b_MD_init 212 = .ok (.if_icmp .gt 7, 3) := by decide +kernel
theorem d_MD_init_215 : decode b_MD_init 215 = .ok (.iload_n 2, 1) := by decide +kernel
theorem d_MD_init_216 : decode b_MD_init 216 = .ok (.goto 5, 3) := by decide +kernel
theorem d_MD_init_219 : decode b_MD_init 219 = .ok (.iload 4, 2) := by decide +kernel
theorem d_MD_init_221 : decode b_MD_init 221 = .ok (.putfield 77, 3) := by decide +kernel
theorem d_MD_init_224 : decode b_MD_init 224 = .ok (.aload_n 0, 1) := by decide +kernel
theorem d_MD_init_225 : decode b_MD_init 225 = .ok (.iload_n 3, 1) := by decide +kernel
theorem d_MD_init_226 : decode b_MD_init 226 = .ok (.iconst 1, 1) := by decide +kernel
theorem d_MD_init_227 : decode b_MD_init 227 = .ok (.if_icmp .ge 7, 3) := by decide +kernel
theorem d_MD_init_230 : decode b_MD_init 230 = .ok (.iconst 1, 1) := by decide +kernel
theorem d_MD_init_231 : decode b_MD_init 231 = .ok (.goto 17, 3) := by decide +kernel
theorem d_MD_init_234 : decode b_MD_init 234 = .ok (.iload_n 3, 1) := by decide +kernel
theorem d_MD_init_235 : decode b_MD_init 235 = .ok (.sipush 200, 3) := by decide +kernel
theorem d_MD_init_238 : decode b_MD_init 238 = .ok (.if_icmp .le 9, 3) := by decide +kernel
theorem d_MD_init_241 : decode b_MD_init 241 = .ok (.sipush 200, 3) := by decide +kernel
theorem d_MD_init_244 : decode b_MD_init 244 = .ok (.goto 4, 3) := by decide +kernel
theorem d_MD_init_247 : decode b_MD_init 247 = .ok (.iload_n 3, 1) := by decide +kernel
theorem d_MD_init_248 : decode b_MD_init 248 = .ok (.putfield 80, 3) := by decide +kernel
theorem d_MD_init_251 : decode b_MD_init 251 = .ok (.iconst 0, 1) := by decide +kernel
theorem d_MD_init_252 : decode b_MD_init 252 = .ok (.istore 5, 2) := by decide +kernel
theorem d_MD_init_254 : decode b_MD_init 254 = .ok (.iload 5, 2) := by decide +kernel
theorem d_MD_init_256 : decode b_MD_init 256 = .ok (.aload_n 0, 1) := by decide +kernel
theorem d_MD_init_257 : decode b_MD_init 257 = .ok (.getfield 73, 3) := by decide +kernel
theorem d_MD_init_260 : decode b_MD_init 260 = .ok (.if_icmp .ge 24, 3) := by decide +kernel
theorem d_MD_init_263 : decode b_MD_init 263 = .ok (.aload_n 0, 1) := by decide +kernel
theorem d_MD_init_264 : decode b_MD_init 264 = .ok (.getfield 25, 3) := by decide +kernel
theorem d_MD_init_267 : decode b_MD_init 267 = .ok (.iload 5, 2) := by decide +kernel
theorem d_MD_init_269 : decode b_MD_init 269 = .ok (.iconst 1, 1) := by decide +kernel
theorem d_MD_init_270 : decode b_MD_init 270 = .ok (.aload_n 0, 1) := by decide +kernel
theorem d_MD_init_271 : decode b_MD_init 271 = .ok (.getfield 73, 3) := by decide +kernel
theorem d_MD_init_274 : decode b_MD_init 274 = .ok (.ishl, 1) := by decide +kernel
theorem d_MD_init_275 : decode b_MD_init 275 = .ok (.iconst 1, 1) := by decide +kernel
theorem d_MD_init_276 : decode b_MD_init 276 = .ok (.isub, 1) := by decide +kernel
theorem d_MD_init_277 : decode b_MD_init 277 = .ok (.iastore, 1) := by decide +kernel
theorem d_MD_init_278 : decode b_MD_init 278 = .ok (.iinc 5 1, 3) := by decide +kernel
theorem d_MD_init_281 : decode b_MD_init 281 = .ok (.goto (-27), 3) := by decide +kernel
theorem d_MD_init_284 : decode b_MD_init 284 = .ok (.return_, 1) := by decide +kernel
theorem d_MD_clock_0 : decode b_MD_clock 0 = .ok (.aload_n 0, 1) := by decide +kernel
theorem d_MD_clock_1 : decode b_MD_clock 1 = .ok (.iload_n 1, 1) := by decide +kernel
theorem d_MD_clock_2 : decode b_MD_clock 2 = .ok (.invokevirtual 83, 3) := by decide +kernel
theorem d_MD_clock_5 : decode b_MD_clock 5 = .ok (.ifCond .eq 28, 3) := by decide +kernel
theorem d_MD_clock_8 : decode b_MD_clock 8 = .ok (.iload_n 2, 1) := by decide +kernel
theorem d_MD_clock_9 : decode b_MD_clock 9 = .ok (.sipush (-500), 3) := by decide +kernel
theorem d_MD_clock_12 : decode b_MD_clock 12 = .ok (.if_icmp .lt 21, 3) := by decide +kernel
theorem d_MD_clock_15 : decode b_MD_clock 15 = .ok (.iload_n 2, 1) := by decide +kernel
theorem d_MD_clock_16 : decode b_MD_clock 16 = .ok (.sipush 500, 3) := by decide +kernel
theorem d_MD_clock_19 : decode b_MD_clock 19 = .ok (.if_icmp .gt 14, 3) := by decide +kernel
theorem d_MD_clock_22 : decode b_MD_clock 22 = .ok (.iload_n 3, 1) := by decide +kernel
theorem d_MD_clock_23 : decode b_MD_clock 23 = .ok (.bipush (-2), 2) := by decide +kernel
theorem d_MD_clock_25 : decode b_MD_clock 25 = .ok (.if_icmp .lt 8, 3) := by decide +kernel
theorem d_MD_clock_28 : decode b_MD_clock 28 = .ok (.iload_n 3, 1) := by decide +kernel
theorem d_MD_clock_29 : decode b_MD_clock 29 = .ok (.iconst 2, 1) := by decide +kernel
theorem d_MD_clock_30 : decode b_MD_clock 30 = .ok (.if_icmp .le 5, 3) := by decide +kernel
theorem d_MD_clock_33 : decode b_MD_clock 33 = .ok (.iconst 0, 1) := by decide +kernel
theorem d_MD_clock_34 : decode b_MD_clock 34 = .ok (.ireturn, 1) := by decide +kernel
theorem d_MD_clock_35 : decode b_MD_clock 35 = .ok (.aload_n 0, 1) := by decide +kernel
theorem d_MD_clock_36 : decode b_MD_clock 36 = .ok (.getfield 7, 3) := by decide +kernel
theorem d_MD_clock_39 : decode b_MD_clock 39 = .ok (.iload_n 1, 1) := by decide +kernel
theorem d_MD_clock_40 : decode b_MD_clock 40 = .ok (.iload_n 2, 1) := by decide +kernel
theorem d_MD_clock_41 : decode b_MD_clock 41 = .ok (.iastore, 1) := by decide +kernel
theorem d_MD_clock_42 : decode b_MD_clock 42 = .ok (.aload_n 0, 1) := by decide +kernel
theorem d_MD_clock_43 : decode b_MD_clock 43 = .ok (.getfield 13, 3) := by decide +kernel
theorem d_MD_clock_46 : decode b_MD_clock 46 = .ok (.iload_n 1, 1) := by decide +kernel
theorem d_MD_clock_47 : decode b_MD_clock 47 = .ok (.iload_n 3, 1) := by decide +kernel
theorem d_MD_clock_48 : decode b_MD_clock 48 = .ok (.iastore, 1) := by decide +kernel
theorem d_MD_clock_49 : decode b_MD_clock 49 = .ok (.iconst 1, 1) := by decide +kernel
theorem d_MD_clock_50 : decode b_MD_clock 50 = .ok (.ireturn, 1) := by decide +kernel
theorem d_MD_node_0 : decode b_MD_node 0 = .ok (.iload_n 1, 1) := by decide +kernel
theorem d_MD_node_1 : decode b_MD_node 1 = .ok (.ifCond .lt 15, 3) := by decide +kernel
theorem d_MD_node_4 : decode b_MD_node 4 = .ok (.iload_n 1, 1) := by decide +kernel
theorem d_MD_node_5 : decode b_MD_node 5 = .ok (.aload_n 0, 1) := by decide +kernel
theorem d_MD_node_6 : decode b_MD_node 6 = .ok (.getfield 73, 3) := by decide +kernel
theorem d_MD_node_9 : decode b_MD_node 9 = .ok (.if_icmp .ge 7, 3) := by decide +kernel
theorem d_MD_node_12 : decode b_MD_node 12 = .ok (.iconst 1, 1) := by decide +kernel
theorem d_MD_node_13 : decode b_MD_node 13 = .ok (.goto 4, 3) := by decide +kernel
theorem d_MD_node_16 : decode b_MD_node 16 = .ok (.iconst 0, 1) := by decide +kernel
theorem d_MD_node_17 : decode b_MD_node 17 = .ok (.ireturn, 1) := by decide +kernel
theorem d_MD_link_0 : decode b_MD_link 0 = .ok (.aload_n 0, 1) := by decide +kernel
theorem d_MD_link_1 : decode b_MD_link 1 = .ok (.iload_n 2, 1) := by decide +kernel
theorem d_MD_link_2 : decode b_MD_link 2 = .ok (.invokevirtual 83, 3) := by decide +kernel
theorem d_MD_link_5 : decode b_MD_link 5 = .ok (.ifCond .eq 39, 3) := by decide +kernel
theorem d_MD_link_8 : decode b_MD_link 8 = .ok (.aload_n 0, 1) := by decide +kernel
theorem d_MD_link_9 : decode b_MD_link 9 = .ok (.iload_n 1, 1) := by decide +kernel
theorem d_MD_link_10 : decode b_MD_link 10 = .ok (.invokevirtual 83, 3) := by decide +kernel
theorem d_MD_link_13 : decode b_MD_link 13 = .ok (.ifCond .eq 31, 3) := by decide +kernel
theorem d_MD_link_16 : decode b_MD_link 16 = .ok (.iload_n 2, 1) := by decide +kernel
theorem d_MD_link_17 : decode b_MD_link 17 = .ok (.iload_n 1, 1) := by decide +kernel
theorem d_MD_link_18 : decode b_MD_link 18 = .ok (.if_icmp .eq 26, 3) := by decide +kernel
theorem d_MD_link_21 : decode b_MD_link 21 = .ok (.iload_n 3, 1) := by decide +kernel
theorem d_MD_link_22 : decode b_MD_link 22 = .ok (.ifCond .lt 22, 3) := by decide +kernel
theorem d_MD_link_25 : decode b_MD_link 25 = .ok (.iload_n 3, 1) := by decide +kernel
theorem d_MD_link_26 : decode b_MD_link 26 = .ok (.bipush 20, 2) := by decide +kernel
theorem d_MD_link_28 : decode b_MD_link 28 = .ok (.if_icmp .gt 16, 3) := by decide +kernel
theorem d_MD_link_31 : decode b_MD_link 31 = .ok (.iload 4, 2) := by decide +kernel
theorem d_MD_link_33 : decode b_MD_link 33 = .ok (.bipush (-3), 2) := by decide +kernel
theorem d_MD_link_35 : decode b_MD_link 35 = .ok (.if_icmp .lt 9, 3) := by decide +kernel
theorem d_MD_link_38 : decode b_MD_link 38 = .ok (.iload 4, 2) := by decide +kernel
theorem d_MD_link_40 : decode b_MD_link 40 = .ok (.iconst 3, 1) := by decide +kernel
theorem d_MD_link_41 : decode b_MD_link 41 = .ok (.if_icmp .le 5, 3) := by decide +kernel
theorem d_MD_link_44 : decode b_MD_link 44 = .ok (.iconst 0, 1) := by decide +kernel
theorem d_MD_link_45 : decode b_MD_link 45 = .ok (.ireturn, 1) := by decide +kernel
theorem d_MD_link_46 : decode b_MD_link 46 = .ok (.aload_n 0, 1) := by decide +kernel
theorem d_MD_link_47 : decode b_MD_link 47 = .ok (.getfield 46, 3) := by decide +kernel
theorem d_MD_link_50 : decode b_MD_link 50 = .ok (.bipush 7, 2) := by decide +kernel
theorem d_MD_link_52 : decode b_MD_link 52 = .ok (.iload_n 1, 1) := by decide +kernel
theorem d_MD_link_53 : decode b_MD_link 53 = .ok (.imul, 1) := by decide +kernel
theorem d_MD_link_54 : decode b_MD_link 54 = .ok (.iload_n 2, 1) := by decide +kernel
theorem d_MD_link_55 : decode b_MD_link 55 = .ok (.iadd, 1) := by decide +kernel
theorem d_MD_link_56 : decode b_MD_link 56 = .ok (.iload_n 3, 1) := by decide +kernel
theorem d_MD_link_57 : decode b_MD_link 57 = .ok (.iastore, 1) := by decide +kernel
theorem d_MD_link_58 : decode b_MD_link 58 = .ok (.aload_n 0, 1) := by decide +kernel
theorem d_MD_link_59 : decode b_MD_link 59 = .ok (.getfield 49, 3) := by decide +kernel
theorem d_MD_link_62 : decode b_MD_link 62 = .ok (.bipush 7, 2) := by decide +kernel
theorem d_MD_link_64 : decode b_MD_link 64 = .ok (.iload_n 1, 1) := by decide +kernel
theorem d_MD_link_65 : decode b_MD_link 65 = .ok (.imul, 1) := by decide +kernel
theorem d_MD_link_66 : decode b_MD_link 66 = .ok (.iload_n 2, 1) := by decide +kernel
theorem d_MD_link_67 : decode b_MD_link 67 = .ok (.iadd, 1) := by decide +kernel
theorem d_MD_link_68 : decode b_MD_link 68 = .ok (.iload 4, 2) := by decide +kernel
theorem d_MD_link_70 : decode b_MD_link 70 = .ok (.iastore, 1) := by decide +kernel
theorem d_MD_link_71 : decode b_MD_link 71 = .ok (.iconst 1, 1) := by decide +kernel
theorem d_MD_link_72 : decode b_MD_link 72 = .ok (.ireturn, 1) := by decide +kernel
theorem d_MD_sensor_0 : decode b_MD_sensor 0 = .ok (.aload_n 0, 1) := by decide +kernel
theorem d_MD_sensor_1 : decode b_MD_sensor 1 = .ok (.iload_n 1, 1) := by decide +kernel
theorem d_MD_sensor_2 : decode b_MD_sensor 2 = .ok (.invokevirtual 83, 3) := by decide +kernel
theorem d_MD_sensor_5 : decode b_MD_sensor 5 = .ok (.ifCond .ne 5, 3) := by decide +kernel
theorem d_MD_sensor_8 : decode b_MD_sensor 8 = .ok (.iconst 0, 1) := by decide +kernel
theorem d_MD_sensor_9 : decode b_MD_sensor 9 = .ok (.ireturn, 1) := by decide +kernel
theorem d_MD_sensor_10 : decode b_MD_sensor 10 = .ok (.aload_n 0, 1) := by decide +kernel
theorem d_MD_sensor_11 : decode b_MD_sensor 11 = .ok (.getfield 16, 3) := by decide +kernel
theorem d_MD_sensor_14 : decode b_MD_sensor 14 = .ok (.iload_n 1, 1) := by decide +kernel
theorem d_MD_sensor_15 : decode b_MD_sensor 15 = .ok (.iload_n 2, 1) := by decide +kernel
theorem d_MD_sensor_16 : decode b_MD_sensor 16 = .ok (.iastore, 1) := by decide +kernel
theorem d_MD_sensor_17 : decode b_MD_sensor 17 = .ok (.iconst 1, 1) := by decide +kernel
theorem d_MD_sensor_18 : decode b_MD_sensor 18 = .ok (.ireturn, 1) := by decide +kernel
theorem d_MD_fault_0 : decode b_MD_fault 0 = .ok (.aload_n 0, 1) := by decide +kernel
theorem d_MD_fault_1 : decode b_MD_fault 1 = .ok (.iload_n 1, 1) := by decide +kernel
theorem d_MD_fault_2 : decode b_MD_fault 2 = .ok (.invokevirtual 83, 3) := by decide +kernel
theorem d_MD_fault_5 : decode b_MD_fault 5 = .ok (.ifCond .eq 26, 3) := by decide +kernel
theorem d_MD_fault_8 : decode b_MD_fault 8 = .ok (.iload_n 2, 1) := by decide +kernel
theorem d_MD_fault_9 : decode b_MD_fault 9 = .ok (.ifCond .lt 22, 3) := by decide +kernel
theorem d_MD_fault_12 : decode b_MD_fault 12 = .ok (.iload_n 2, 1) := by decide +kernel
theorem d_MD_fault_13 : decode b_MD_fault 13 = .ok (.iconst 5, 1) := by decide +kernel
theorem d_MD_fault_14 : decode b_MD_fault 14 = .ok (.if_icmp .gt 17, 3) := by decide +kernel
theorem d_MD_fault_17 : decode b_MD_fault 17 = .ok (.iload_n 3, 1) := by decide +kernel
theorem d_MD_fault_18 : decode b_MD_fault 18 = .ok (.sipush (-5000), 3) := by decide +kernel
theorem d_MD_fault_21 : decode b_MD_fault 21 = .ok (.if_icmp .lt 10, 3) := by decide +kernel
theorem d_MD_fault_24 : decode b_MD_fault 24 = .ok (.iload_n 3, 1) := by decide +kernel
theorem d_MD_fault_25 : decode b_MD_fault 25 = .ok (.sipush 5000, 3) := by decide +kernel
theorem d_MD_fault_28 : decode b_MD_fault 28 = .ok (.if_icmp .le 5, 3) := by decide +kernel
theorem d_MD_fault_31 : decode b_MD_fault 31 = .ok (.iconst 0, 1) := by decide +kernel
theorem d_MD_fault_32 : decode b_MD_fault 32 = .ok (.ireturn, 1) := by decide +kernel
theorem d_MD_fault_33 : decode b_MD_fault 33 = .ok (.aload_n 0, 1) := by decide +kernel
theorem d_MD_fault_34 : decode b_MD_fault 34 = .ok (.getfield 19, 3) := by decide +kernel
theorem d_MD_fault_37 : decode b_MD_fault 37 = .ok (.iload_n 1, 1) := by decide +kernel
theorem d_MD_fault_38 : decode b_MD_fault 38 = .ok (.iload_n 2, 1) := by decide +kernel
theorem d_MD_fault_39 : decode b_MD_fault 39 = .ok (.iastore, 1) := by decide +kernel
theorem d_MD_fault_40 : decode b_MD_fault 40 = .ok (.aload_n 0, 1) := by decide +kernel
theorem d_MD_fault_41 : decode b_MD_fault 41 = .ok (.getfield 22, 3) := by decide +kernel
theorem d_MD_fault_44 : decode b_MD_fault 44 = .ok (.iload_n 1, 1) := by decide +kernel
theorem d_MD_fault_45 : decode b_MD_fault 45 = .ok (.iload_n 3, 1) := by decide +kernel
theorem d_MD_fault_46 : decode b_MD_fault 46 = .ok (.iastore, 1) := by decide +kernel
theorem d_MD_fault_47 : decode b_MD_fault 47 = .ok (.iconst 1, 1) := by decide +kernel
theorem d_MD_fault_48 : decode b_MD_fault 48 = .ok (.ireturn, 1) := by decide +kernel
theorem d_MD_code_0 : decode b_MD_code 0 = .ok (.iload_n 1, 1) := by decide +kernel
theorem d_MD_code_1 : decode b_MD_code 1 = .ok (.invokestatic 87, 3) := by decide +kernel
theorem d_MD_code_4 : decode b_MD_code 4 = .ok (.ifCond .eq 24, 3) := by decide +kernel
theorem d_MD_code_7 : decode b_MD_code 7 = .ok (.iload_n 2, 1) := by decide +kernel
theorem d_MD_code_8 : decode b_MD_code 8 = .ok (.ifCond .lt 20, 3) := by decide +kernel
theorem d_MD_code_11 : decode b_MD_code 11 = .ok (.iload_n 2, 1) := by decide +kernel
theorem d_MD_code_12 : decode b_MD_code 12 = .ok (.bipush 9, 2) := by decide +kernel
theorem d_MD_code_14 : decode b_MD_code 14 = .ok (.if_icmp .gt 14, 3) := by decide +kernel
theorem d_MD_code_17 : decode b_MD_code 17 = .ok (.aload_n 0, 1) := by decide +kernel
theorem d_MD_code_18 : decode b_MD_code 18 = .ok (.getfield 58, 3) := by decide +kernel
theorem d_MD_code_21 : decode b_MD_code 21 = .ok (.iload_n 1, 1) := by decide +kernel
theorem d_MD_code_22 : decode b_MD_code 22 = .ok (.iaload, 1) := by decide +kernel
theorem d_MD_code_23 : decode b_MD_code 23 = .ok (.bipush 12, 2) := by decide +kernel
theorem d_MD_code_25 : decode b_MD_code 25 = .ok (.if_icmp .lt 5, 3) := by decide +kernel
theorem d_MD_code_28 : decode b_MD_code 28 = .ok (.iconst 0, 1) := by decide +kernel
theorem d_MD_code_29 : decode b_MD_code 29 = .ok (.ireturn, 1) := by decide +kernel
theorem d_MD_code_30 : decode b_MD_code 30 = .ok (.iload_n 2, 1) := by decide +kernel
theorem d_MD_code_31 : decode b_MD_code 31 = .ok (.iconst 1, 1) := by decide +kernel
theorem d_MD_code_32 : decode b_MD_code 32 = .ok (.if_icmp .ne 11, 3) := by decide +kernel
theorem d_MD_code_35 : decode b_MD_code 35 = .ok (.aload_n 0, 1) := by decide +kernel
theorem d_MD_code_36 : decode b_MD_code 36 = .ok (.iload_n 3, 1) := by decide +kernel
theorem d_MD_code_37 : decode b_MD_code 37 = .ok (.invokevirtual 83, 3) := by decide +kernel
theorem d_MD_code_40 : decode b_MD_code 40 = .ok (.ifCond .eq 31, 3) := by decide +kernel
theorem d_MD_code_43 : decode b_MD_code 43 = .ok (.iload_n 2, 1) := by decide +kernel
theorem d_MD_code_44 : decode b_MD_code 44 = .ok (.iconst 2, 1) := by decide +kernel
theorem d_MD_code_45 : decode b_MD_code 45 = .ok (.if_icmp .ne 10, 3) := by decide +kernel
theorem d_MD_code_48 : decode b_MD_code 48 = .ok (.iload_n 3, 1) := by decide +kernel
theorem d_MD_code_49 : decode b_MD_code 49 = .ok (.invokestatic 87, 3) := by decide +kernel
theorem d_MD_code_52 : decode b_MD_code 52 = .ok (.ifCond .eq 19, 3) := by decide +kernel
theorem d_MD_code_55 : decode b_MD_code 55 = .ok (.iload_n 2, 1) := by decide +kernel
theorem d_MD_code_56 : decode b_MD_code 56 = .ok (.bipush 8, 2) := by decide +kernel
theorem d_MD_code_58 : decode b_MD_code 58 = .ok (.if_icmp .ne 15, 3) := by decide +kernel
theorem d_MD_code_61 : decode b_MD_code 61 = .ok (.iload_n 3, 1) := by decide +kernel
theorem d_MD_code_62 : decode b_MD_code 62 = .ok (.ifCond .lt 9, 3) := by decide +kernel
theorem d_MD_code_65 : decode b_MD_code 65 = .ok (.iload_n 3, 1) := by decide +kernel
theorem d_MD_code_66 : decode b_MD_code 66 = .ok (.bipush 11, 2) := by decide +kernel
theorem d_MD_code_68 : decode b_MD_code 68 = .ok (.if_icmp .le 5, 3) := by decide +kernel
theorem d_MD_code_71 : decode b_MD_code 71 = .ok (.iconst 0, 1) := by decide +kernel
theorem d_MD_code_72 : decode b_MD_code 72 = .ok (.ireturn, 1) := by decide +kernel
theorem d_MD_code_73 : decode b_MD_code 73 = .ok (.aload_n 0, 1) := by decide +kernel
theorem d_MD_code_74 : decode b_MD_code 74 = .ok (.getfield 52, 3) := by decide +kernel
theorem d_MD_code_77 : decode b_MD_code 77 = .ok (.bipush 12, 2) := by decide +kernel
theorem d_MD_code_79 : decode b_MD_code 79 = .ok (.iload_n 1, 1) := by decide +kernel
theorem d_MD_code_80 : decode b_MD_code 80 = .ok (.imul, 1) := by decide +kernel
theorem d_MD_code_81 : decode b_MD_code 81 = .ok (.aload_n 0, 1) := by decide +kernel
theorem d_MD_code_82 : decode b_MD_code 82 = .ok (.getfield 58, 3) := by decide +kernel
theorem d_MD_code_85 : decode b_MD_code 85 = .ok (.iload_n 1, 1) := by decide +kernel
theorem d_MD_code_86 : decode b_MD_code 86 = .ok (.iaload, 1) := by decide +kernel
theorem d_MD_code_87 : decode b_MD_code 87 = .ok (.iadd, 1) := by decide +kernel
theorem d_MD_code_88 : decode b_MD_code 88 = .ok (.iload_n 2, 1) := by decide +kernel
theorem d_MD_code_89 : decode b_MD_code 89 = .ok (.iastore, 1) := by decide +kernel
theorem d_MD_code_90 : decode b_MD_code 90 = .ok (.aload_n 0, 1) := by decide +kernel
theorem d_MD_code_91 : decode b_MD_code 91 = .ok (.getfield 55, 3) := by decide +kernel
theorem d_MD_code_94 : decode b_MD_code 94 = .ok (.bipush 12, 2) := by decide +kernel
theorem d_MD_code_96 : decode b_MD_code 96 = .ok (.iload_n 1, 1) := by decide +kernel
theorem d_MD_code_97 : decode b_MD_code 97 = .ok (.imul, 1) := by decide +kernel
theorem d_MD_code_98 : decode b_MD_code 98 = .ok (.aload_n 0, 1) := by decide +kernel
theorem d_MD_code_99 : decode b_MD_code 99 = .ok (.getfield 58, 3) := by decide +kernel
theorem d_MD_code_102 : decode b_MD_code 102 = .ok (.iload_n 1, 1) := by decide +kernel
theorem d_MD_code_103 : decode b_MD_code 103 = .ok (.iaload, 1) := by decide +kernel
theorem d_MD_code_104 : decode b_MD_code 104 = .ok (.iadd, 1) := by decide +kernel
theorem d_MD_code_105 : decode b_MD_code 105 = .ok (.iload_n 3, 1) := by decide +kernel
theorem d_MD_code_106 : decode b_MD_code 106 = .ok (.iastore, 1) := by decide +kernel
theorem d_MD_code_107 : decode b_MD_code 107 = .ok (.aload_n 0, 1) := by decide +kernel
theorem d_MD_code_108 : decode b_MD_code 108 = .ok (.getfield 58, 3) := by decide +kernel
theorem d_MD_code_111 : decode b_MD_code 111 = .ok (.iload_n 1, 1) := by decide +kernel
theorem d_MD_code_112 : decode b_MD_code 112 = .ok (.dup2, 1) := by decide +kernel
theorem d_MD_code_113 : decode b_MD_code 113 = .ok (.iaload, 1) := by decide +kernel
theorem d_MD_code_114 : decode b_MD_code 114 = .ok (.iconst 1, 1) := by decide +kernel
theorem d_MD_code_115 : decode b_MD_code 115 = .ok (.iadd, 1) := by decide +kernel
theorem d_MD_code_116 : decode b_MD_code 116 = .ok (.iastore, 1) := by decide +kernel
theorem d_MD_code_117 : decode b_MD_code 117 = .ok (.iconst 1, 1) := by decide +kernel
theorem d_MD_code_118 : decode b_MD_code 118 = .ok (.ireturn, 1) := by decide +kernel
theorem d_MD_task_0 : decode b_MD_task 0 = .ok (.iload_n 0, 1) := by decide +kernel
theorem d_MD_task_1 : decode b_MD_task 1 = .ok (.ifCond .lt 12, 3) := by decide +kernel
theorem d_MD_task_4 : decode b_MD_task 4 = .ok (.iload_n 0, 1) := by decide +kernel
theorem d_MD_task_5 : decode b_MD_task 5 = .ok (.iconst 3, 1) := by decide +kernel
theorem d_MD_task_6 : decode b_MD_task 6 = .ok (.if_icmp .gt 7, 3) := by decide +kernel
theorem d_MD_task_9 : decode b_MD_task 9 = .ok (.iconst 1, 1) := by decide +kernel
theorem d_MD_task_10 : decode b_MD_task 10 = .ok (.goto 4, 3) := by decide +kernel
theorem d_MD_task_13 : decode b_MD_task 13 = .ok (.iconst 0, 1) := by decide +kernel
theorem d_MD_task_14 : decode b_MD_task 14 = .ok (.ireturn, 1) := by decide +kernel
theorem d_MD_clear_0 : decode b_MD_clear 0 = .ok (.iload_n 1, 1) := by decide +kernel
theorem d_MD_clear_1 : decode b_MD_clear 1 = .ok (.invokestatic 87, 3) := by decide +kernel
theorem d_MD_clear_4 : decode b_MD_clear 4 = .ok (.ifCond .ne 5, 3) := by decide +kernel
theorem d_MD_clear_7 : decode b_MD_clear 7 = .ok (.iconst (-1), 1) := by decide +kernel
theorem d_MD_clear_8 : decode b_MD_clear 8 = .ok (.ireturn, 1) := by decide +kernel
theorem d_MD_clear_9 : decode b_MD_clear 9 = .ok (.aload_n 0, 1) := by decide +kernel
theorem d_MD_clear_10 : decode b_MD_clear 10 = .ok (.getfield 58, 3) := by decide +kernel
theorem d_MD_clear_13 : decode b_MD_clear 13 = .ok (.iload_n 1, 1) := by decide +kernel
theorem d_MD_clear_14 : decode b_MD_clear 14 = .ok (.iaload, 1) := by decide +kernel
theorem d_MD_clear_15 : decode b_MD_clear 15 = .ok (.istore_n 2, 1) := by decide +kernel
theorem d_MD_clear_16 : decode b_MD_clear 16 = .ok (.aload_n 0, 1) := by decide +kernel
theorem d_MD_clear_17 : decode b_MD_clear 17 = .ok (.getfield 58, 3) := by decide +kernel
theorem d_MD_clear_20 : decode b_MD_clear 20 = .ok (.iload_n 1, 1) := by decide +kernel
theorem d_MD_clear_21 : decode b_MD_clear 21 = .ok (.iconst 0, 1) := by decide +kernel
theorem d_MD_clear_22 : decode b_MD_clear 22 = .ok (.iastore, 1) := by decide +kernel
theorem d_MD_clear_23 : decode b_MD_clear 23 = .ok (.aload_n 0, 1) := by decide +kernel
theorem d_MD_clear_24 : decode b_MD_clear 24 = .ok (.getfield 61, 3) := by decide +kernel
theorem d_MD_clear_27 : decode b_MD_clear 27 = .ok (.iload_n 1, 1) := by decide +kernel
theorem d_MD_clear_28 : decode b_MD_clear 28 = .ok (.iconst 0, 1) := by decide +kernel
theorem d_MD_clear_29 : decode b_MD_clear 29 = .ok (.iastore, 1) := by decide +kernel
theorem d_MD_clear_30 : decode b_MD_clear 30 = .ok (.iload_n 2, 1) := by decide +kernel
theorem d_MD_clear_31 : decode b_MD_clear 31 = .ok (.ireturn, 1) := by decide +kernel
theorem d_MD_due_0 : decode b_MD_due 0 = .ok (.iload_n 1, 1) := by decide +kernel
theorem d_MD_due_1 : decode b_MD_due 1 = .ok (.invokestatic 87, 3) := by decide +kernel
theorem d_MD_due_4 : decode b_MD_due 4 = .ok (.ifCond .eq 23, 3) := by decide +kernel
theorem d_MD_due_7 : decode b_MD_due 7 = .ok (.iload_n 2, 1) := by decide +kernel
theorem d_MD_due_8 : decode b_MD_due 8 = .ok (.iconst 1, 1) := by decide +kernel
theorem d_MD_due_9 : decode b_MD_due 9 = .ok (.if_icmp .lt 18, 3) := by decide +kernel
theorem d_MD_due_12 : decode b_MD_due 12 = .ok (.iload_n 2, 1) := by decide +kernel
theorem d_MD_due_13 : decode b_MD_due 13 = .ok (.bipush 8, 2) := by decide +kernel
theorem d_MD_due_15 : decode b_MD_due 15 = .ok (.if_icmp .gt 12, 3) := by decide +kernel
theorem d_MD_due_18 : decode b_MD_due 18 = .ok (.iload_n 3, 1) := by decide +kernel
theorem d_MD_due_19 : decode b_MD_due 19 = .ok (.ifCond .lt 8, 3) := by decide +kernel
theorem d_MD_due_22 : decode b_MD_due 22 = .ok (.iload_n 3, 1) := by decide +kernel
theorem d_MD_due_23 : decode b_MD_due 23 = .ok (.iload_n 2, 1) := by decide +kernel
theorem d_MD_due_24 : decode b_MD_due 24 = .ok (.if_icmp .lt 5, 3) := by decide +kernel
theorem d_MD_due_27 : decode b_MD_due 27 = .ok (.iconst 0, 1) := by decide +kernel
theorem d_MD_due_28 : decode b_MD_due 28 = .ok (.ireturn, 1) := by decide +kernel
theorem d_MD_due_29 : decode b_MD_due 29 = .ok (.aload_n 0, 1) := by decide +kernel
theorem d_MD_due_30 : decode b_MD_due 30 = .ok (.getfield 61, 3) := by decide +kernel
theorem d_MD_due_33 : decode b_MD_due 33 = .ok (.iload_n 1, 1) := by decide +kernel
theorem d_MD_due_34 : decode b_MD_due 34 = .ok (.iload_n 2, 1) := by decide +kernel
theorem d_MD_due_35 : decode b_MD_due 35 = .ok (.iastore, 1) := by decide +kernel
theorem d_MD_due_36 : decode b_MD_due 36 = .ok (.aload_n 0, 1) := by decide +kernel
theorem d_MD_due_37 : decode b_MD_due 37 = .ok (.getfield 64, 3) := by decide +kernel
theorem d_MD_due_40 : decode b_MD_due 40 = .ok (.iload_n 1, 1) := by decide +kernel
theorem d_MD_due_41 : decode b_MD_due 41 = .ok (.iload_n 3, 1) := by decide +kernel
theorem d_MD_due_42 : decode b_MD_due 42 = .ok (.iastore, 1) := by decide +kernel
theorem d_MD_due_43 : decode b_MD_due 43 = .ok (.iconst 1, 1) := by decide +kernel
theorem d_MD_due_44 : decode b_MD_due 44 = .ok (.ireturn, 1) := by decide +kernel
theorem d_MD_run_0 : decode b_MD_run 0 = .ok (.iload_n 1, 1) := by decide +kernel
theorem d_MD_run_1 : decode b_MD_run 1 = .ok (.iconst 1, 1) := by decide +kernel
theorem d_MD_run_2 : decode b_MD_run 2 = .ok (.if_icmp .lt 8, 3) := by decide +kernel
theorem d_MD_run_5 : decode b_MD_run 5 = .ok (.iload_n 1, 1) := by decide +kernel
theorem d_MD_run_6 : decode b_MD_run 6 = .ok (.iconst 4, 1) := by decide +kernel
theorem d_MD_run_7 : decode b_MD_run 7 = .ok (.if_icmp .le 5, 3) := by decide +kernel
theorem d_MD_run_10 : decode b_MD_run 10 = .ok (.iconst (-1), 1) := by decide +kernel
theorem d_MD_run_11 : decode b_MD_run 11 = .ok (.ireturn, 1) := by decide +kernel
theorem d_MD_run_12 : decode b_MD_run 12 = .ok (.aload_n 0, 1) := by decide +kernel
theorem d_MD_run_13 : decode b_MD_run 13 = .ok (.iconst 0, 1) := by decide +kernel
theorem d_MD_run_14 : decode b_MD_run 14 = .ok (.putfield 155, 3) := by decide +kernel
theorem d_MD_run_17 : decode b_MD_run 17 = .ok (.iconst 0, 1) := by decide +kernel
theorem d_MD_run_18 : decode b_MD_run 18 = .ok (.istore_n 2, 1) := by decide +kernel
theorem d_MD_run_19 : decode b_MD_run 19 = .ok (.iload_n 2, 1) := by decide +kernel
theorem d_MD_run_20 : decode b_MD_run 20 = .ok (.iload_n 1, 1) := by decide +kernel
theorem d_MD_run_21 : decode b_MD_run 21 = .ok (.if_icmp .ge 13, 3) := by decide +kernel
theorem d_MD_run_24 : decode b_MD_run 24 = .ok (.aload_n 0, 1) := by decide +kernel
theorem d_MD_run_25 : decode b_MD_run 25 = .ok (.invokevirtual 173, 3) := by decide +kernel
theorem d_MD_run_28 : decode b_MD_run 28 = .ok (.iinc 2 1, 3) := by decide +kernel
theorem d_MD_run_31 : decode b_MD_run 31 = .ok (.goto (-12), 3) := by decide +kernel
theorem d_MD_run_34 : decode b_MD_run 34 = .ok (.aload_n 0, 1) := by decide +kernel
theorem d_MD_run_35 : decode b_MD_run 35 = .ok (.getfield 155, 3) := by decide +kernel
theorem d_MD_run_38 : decode b_MD_run 38 = .ok (.ireturn, 1) := by decide +kernel
theorem d_MD_one_0 : decode b_MD_one 0 = .ok (.iconst 0, 1) := by decide +kernel
theorem d_MD_one_1 : decode b_MD_one 1 = .ok (.istore_n 1, 1) := by decide +kernel
theorem d_MD_one_2 : decode b_MD_one 2 = .ok (.iload_n 1, 1) := by decide +kernel
theorem d_MD_one_3 : decode b_MD_one 3 = .ok (.aload_n 0, 1) := by decide +kernel
theorem d_MD_one_4 : decode b_MD_one 4 = .ok (.getfield 73, 3) := by decide +kernel
theorem d_MD_one_7 : decode b_MD_one 7 = .ok (.if_icmp .ge 55, 3) := by decide +kernel
theorem d_MD_one_10 : decode b_MD_one 10 = .ok (.aload_n 0, 1) := by decide +kernel
theorem d_MD_one_11 : decode b_MD_one 11 = .ok (.getfield 28, 3) := by decide +kernel
theorem d_MD_one_14 : decode b_MD_one 14 = .ok (.iload_n 1, 1) := by decide +kernel
theorem d_MD_one_15 : decode b_MD_one 15 = .ok (.iconst 0, 1) := by decide +kernel
theorem d_MD_one_16 : decode b_MD_one 16 = .ok (.iastore, 1) := by decide +kernel
theorem d_MD_one_17 : decode b_MD_one 17 = .ok (.iconst 0, 1) := by decide +kernel
theorem d_MD_one_18 : decode b_MD_one 18 = .ok (.istore_n 2, 1) := by decide +kernel
theorem d_MD_one_19 : decode b_MD_one 19 = .ok (.iload_n 2, 1) := by decide +kernel
theorem d_MD_one_20 : decode b_MD_one 20 = .ok (.aload_n 0, 1) := by decide +kernel
theorem d_MD_one_21 : decode b_MD_one 21 = .ok (.getfield 73, 3) := by decide +kernel
theorem d_MD_one_24 : decode b_MD_one 24 = .ok (.if_icmp .ge 32, 3) := by decide +kernel
theorem d_MD_one_27 : decode b_MD_one 27 = .ok (.aload_n 0, 1) := by decide +kernel
theorem d_MD_one_28 : decode b_MD_one 28 = .ok (.getfield 40, 3) := by decide +kernel
theorem d_MD_one_31 : decode b_MD_one 31 = .ok (.bipush 7, 2) := by decide +kernel
theorem d_MD_one_33 : decode b_MD_one 33 = .ok (.iload_n 1, 1) := by decide +kernel
theorem d_MD_one_34 : decode b_MD_one 34 = .ok (.imul, 1) := by decide +kernel
theorem d_MD_one_35 : decode b_MD_one 35 = .ok (.iload_n 2, 1) := by decide +kernel
theorem d_MD_one_36 : decode b_MD_one 36 = .ok (.iadd, 1) := by decide +kernel
theorem d_MD_one_37 : decode b_MD_one 37 = .ok (.aload_n 0, 1) := by decide +kernel
theorem d_MD_one_38 : decode b_MD_one 38 = .ok (.iload_n 1, 1) := by decide +kernel
theorem d_MD_one_39 : decode b_MD_one 39 = .ok (.iload_n 2, 1) := by decide +kernel
theorem d_MD_one_40 : decode b_MD_one 40 = .ok (.aload_n 0, 1) := by decide +kernel
theorem d_MD_one_41 : decode b_MD_one 41 = .ok (.getfield 16, 3) := by decide +kernel
theorem d_MD_one_44 : decode b_MD_one 44 = .ok (.iload_n 2, 1) := by decide +kernel
theorem d_MD_one_45 : decode b_MD_one 45 = .ok (.iaload, 1) := by decide +kernel
theorem d_MD_one_46 : decode b_MD_one 46 = .ok (.invokevirtual 161, 3) := by decide +kernel
theorem d_MD_one_49 : decode b_MD_one 49 = .ok (.iastore, 1) := by decide +kernel
theorem d_MD_one_50 : decode b_MD_one 50 = .ok (.iinc 2 1, 3) := by decide +kernel
theorem d_MD_one_53 : decode b_MD_one 53 = .ok (.goto (-34), 3) := by decide +kernel
theorem d_MD_one_56 : decode b_MD_one 56 = .ok (.iinc 1 1, 3) := by decide +kernel
theorem d_MD_one_59 : decode b_MD_one 59 = .ok (.goto (-57), 3) := by decide +kernel
theorem d_MD_one_62 : decode b_MD_one 62 = .ok (.aload_n 0, 1) := by decide +kernel
theorem d_MD_one_63 : decode b_MD_one 63 = .ok (.invokevirtual 164, 3) := by decide +kernel
theorem d_MD_one_66 : decode b_MD_one 66 = .ok (.iconst 0, 1) := by decide +kernel
theorem d_MD_one_67 : decode b_MD_one 67 = .ok (.istore_n 1, 1) := by decide +kernel
theorem d_MD_one_68 : decode b_MD_one 68 = .ok (.iload_n 1, 1) := by decide +kernel
theorem d_MD_one_69 : decode b_MD_one 69 = .ok (.aload_n 0, 1) := by decide +kernel
theorem d_MD_one_70 : decode b_MD_one 70 = .ok (.getfield 73, 3) := by decide +kernel
theorem d_MD_one_73 : decode b_MD_one 73 = .ok (.if_icmp .ge 57, 3) := by decide +kernel
theorem d_MD_one_76 : decode b_MD_one 76 = .ok (.iconst 0, 1) := by decide +kernel
theorem d_MD_one_77 : decode b_MD_one 77 = .ok (.istore_n 2, 1) := by decide +kernel
theorem d_MD_one_78 : decode b_MD_one 78 = .ok (.iload_n 2, 1) := by decide +kernel
theorem d_MD_one_79 : decode b_MD_one 79 = .ok (.aload_n 0, 1) := by decide +kernel
theorem d_MD_one_80 : decode b_MD_one 80 = .ok (.getfield 73, 3) := by decide +kernel
theorem d_MD_one_83 : decode b_MD_one 83 = .ok (.if_icmp .ge 41, 3) := by decide +kernel
theorem d_MD_one_86 : decode b_MD_one 86 = .ok (.aload_n 0, 1) := by decide +kernel
theorem d_MD_one_87 : decode b_MD_one 87 = .ok (.getfield 43, 3) := by decide +kernel
theorem d_MD_one_90 : decode b_MD_one 90 = .ok (.bipush 7, 2) := by decide +kernel
theorem d_MD_one_92 : decode b_MD_one 92 = .ok (.iload_n 1, 1) := by decide +kernel
theorem d_MD_one_93 : decode b_MD_one 93 = .ok (.imul, 1) := by decide +kernel
theorem d_MD_one_94 : decode b_MD_one 94 = .ok (.iload_n 2, 1) := by decide +kernel
theorem d_MD_one_95 : decode b_MD_one 95 = .ok (.iadd, 1) := by decide +kernel
theorem d_MD_one_96 : decode b_MD_one 96 = .ok (.aload_n 0, 1) := by decide +kernel
theorem d_MD_one_97 : decode b_MD_one 97 = .ok (.iload_n 1, 1) := by decide +kernel
theorem d_MD_one_98 : decode b_MD_one 98 = .ok (.iload_n 2, 1) := by decide +kernel
theorem d_MD_one_99 : decode b_MD_one 99 = .ok (.aload_n 0, 1) := by decide +kernel
theorem d_MD_one_100 : decode b_MD_one 100 = .ok (.getfield 28, 3) := by decide +kernel
theorem d_MD_one_103 : decode b_MD_one 103 = .ok (.iload_n 2, 1) := by decide +kernel
theorem d_MD_one_104 : decode b_MD_one 104 = .ok (.iaload, 1) := by decide +kernel
theorem d_MD_one_105 : decode b_MD_one 105 = .ok (.invokevirtual 161, 3) := by decide +kernel
theorem d_MD_one_108 : decode b_MD_one 108 = .ok (.iconst 1, 1) := by decide +kernel
theorem d_MD_one_109 : decode b_MD_one 109 = .ok (.aload_n 0, 1) := by decide +kernel
theorem d_MD_one_110 : decode b_MD_one 110 = .ok (.getfield 73, 3) := by decide +kernel
theorem d_MD_one_113 : decode b_MD_one 113 = .ok (.ishl, 1) := by decide +kernel
theorem d_MD_one_114 : decode b_MD_one 114 = .ok (.iconst 1, 1) := by decide +kernel
theorem d_MD_one_115 : decode b_MD_one 115 = .ok (.isub, 1) := by decide +kernel
theorem d_MD_one_116 : decode b_MD_one 116 = .ok (.iand, 1) := by decide +kernel
theorem d_MD_one_117 : decode b_MD_one 117 = .ok (.iastore, 1) := by decide +kernel
theorem d_MD_one_118 : decode b_MD_one 118 = .ok (.iinc 2 1, 3) := by decide +kernel
theorem d_MD_one_121 : decode b_MD_one 121 = .ok (.goto (-43), 3) := by decide +kernel
theorem d_MD_one_124 : decode b_MD_one 124 = .ok (.iinc 1 1, 3) := by decide +kernel
theorem d_MD_one_127 : decode b_MD_one 127 = .ok (.goto (-59), 3) := by decide +kernel
theorem d_MD_one_130 : decode b_MD_one 130 = .ok (.iconst 0, 1) := by decide +kernel
theorem d_MD_one_131 : decode b_MD_one 131 = .ok (.istore_n 1, 1) := by decide +kernel
theorem d_MD_one_132 : decode b_MD_one 132 = .ok (.iload_n 1, 1) := by decide +kernel
theorem d_MD_one_133 : decode b_MD_one 133 = .ok (.aload_n 0, 1) := by decide +kernel
theorem d_MD_one_134 : decode b_MD_one 134 = .ok (.getfield 73, 3) := by decide +kernel
theorem d_MD_one_137 : decode b_MD_one 137 = .ok (.if_icmp .ge 14, 3) := by decide +kernel
theorem d_MD_one_140 : decode b_MD_one 140 = .ok (.aload_n 0, 1) := by decide +kernel
theorem d_MD_one_141 : decode b_MD_one 141 = .ok (.iload_n 1, 1) := by decide +kernel
theorem d_MD_one_142 : decode b_MD_one 142 = .ok (.invokevirtual 167, 3) := by decide +kernel
theorem d_MD_one_145 : decode b_MD_one 145 = .ok (.iinc 1 1, 3) := by decide +kernel
theorem d_MD_one_148 : decode b_MD_one 148 = .ok (.goto (-16), 3) := by decide +kernel
theorem d_MD_one_151 : decode b_MD_one 151 = .ok (.iconst 0, 1) := by decide +kernel
theorem d_MD_one_152 : decode b_MD_one 152 = .ok (.istore_n 1, 1) := by decide +kernel
theorem d_MD_one_153 : decode b_MD_one 153 = .ok (.iload_n 1, 1) := by decide +kernel
theorem d_MD_one_154 : decode b_MD_one 154 = .ok (.aload_n 0, 1) := by decide +kernel
theorem d_MD_one_155 : decode b_MD_one 155 = .ok (.getfield 73, 3) := by decide +kernel
theorem d_MD_one_158 : decode b_MD_one 158 = .ok (.if_icmp .ge 20, 3) := by decide +kernel
theorem d_MD_one_161 : decode b_MD_one 161 = .ok (.aload_n 0, 1) := by decide +kernel
theorem d_MD_one_162 : decode b_MD_one 162 = .ok (.getfield 31, 3) := by decide +kernel
theorem d_MD_one_165 : decode b_MD_one 165 = .ok (.iload_n 1, 1) := by decide +kernel
theorem d_MD_one_166 : decode b_MD_one 166 = .ok (.aload_n 0, 1) := by decide +kernel
theorem d_MD_one_167 : decode b_MD_one 167 = .ok (.iload_n 1, 1) := by decide +kernel
theorem d_MD_one_168 : decode b_MD_one 168 = .ok (.invokevirtual 170, 3) := by decide +kernel
theorem d_MD_one_171 : decode b_MD_one 171 = .ok (.iastore, 1) := by decide +kernel
theorem d_MD_one_172 : decode b_MD_one 172 = .ok (.iinc 1 1, 3) := by decide +kernel
theorem d_MD_one_175 : decode b_MD_one 175 = .ok (.goto (-22), 3) := by decide +kernel
theorem d_MD_one_178 : decode b_MD_one 178 = .ok (.iconst 0, 1) := by decide +kernel
theorem d_MD_one_179 : decode b_MD_one 179 = .ok (.istore_n 1, 1) := by decide +kernel
theorem d_MD_one_180 : decode b_MD_one 180 = .ok (.iload_n 1, 1) := by decide +kernel
theorem d_MD_one_181 : decode b_MD_one 181 = .ok (.aload_n 0, 1) := by decide +kernel
theorem d_MD_one_182 : decode b_MD_one 182 = .ok (.getfield 73, 3) := by decide +kernel
theorem d_MD_one_185 : decode b_MD_one 185 = .ok (.if_icmp .ge 35, 3) := by decide +kernel
theorem d_MD_one_188 : decode b_MD_one 188 = .ok (.aload_n 0, 1) := by decide +kernel
theorem d_MD_one_189 : decode b_MD_one 189 = .ok (.getfield 7, 3) := by decide +kernel
theorem d_MD_one_192 : decode b_MD_one 192 = .ok (.iload_n 1, 1) := by decide +kernel
theorem d_MD_one_193 : decode b_MD_one 193 = .ok (.aload_n 0, 1) := by decide +kernel
theorem d_MD_one_194 : decode b_MD_one 194 = .ok (.getfield 7, 3) := by decide +kernel
theorem d_MD_one_197 : decode b_MD_one 197 = .ok (.iload_n 1, 1) := by decide +kernel
theorem d_MD_one_198 : decode b_MD_one 198 = .ok (.iaload, 1) := by decide +kernel
theorem d_MD_one_199 : decode b_MD_one 199 = .ok (.aload_n 0, 1) := by decide +kernel
theorem d_MD_one_200 : decode b_MD_one 200 = .ok (.getfield 31, 3) := by decide +kernel
theorem d_MD_one_203 : decode b_MD_one 203 = .ok (.iload_n 1, 1) := by decide +kernel
theorem d_MD_one_204 : decode b_MD_one 204 = .ok (.iaload, 1) := by decide +kernel
theorem d_MD_one_205 : decode b_MD_one 205 = .ok (.iadd, 1) := by decide +kernel
theorem d_MD_one_206 : decode b_MD_one 206 = .ok (.aload_n 0, 1) := by decide +kernel
theorem d_MD_one_207 : decode b_MD_one 207 = .ok (.getfield 13, 3) := by decide +kernel
theorem d_MD_one_210 : decode b_MD_one 210 = .ok (.iload_n 1, 1) := by decide +kernel
theorem d_MD_one_211 : decode b_MD_one 211 = .ok (.iaload, 1) := by decide +kernel
theorem d_MD_one_212 : decode b_MD_one 212 = .ok (.iadd, 1) := by decide +kernel
theorem d_MD_one_213 : decode b_MD_one 213 = .ok (.iastore, 1) := by decide +kernel
theorem d_MD_one_214 : decode b_MD_one 214 = .ok (.iinc 1 1, 3) := by decide +kernel
theorem d_MD_one_217 : decode b_MD_one 217 = .ok (.goto (-37), 3) := by decide +kernel
theorem d_MD_one_220 : decode b_MD_one 220 = .ok (.aload_n 0, 1) := by decide +kernel
theorem d_MD_one_221 : decode b_MD_one 221 = .ok (.dup, 1) := by decide +kernel
theorem d_MD_one_222 : decode b_MD_one 222 = .ok (.getfield 94, 3) := by decide +kernel
theorem d_MD_one_225 : decode b_MD_one 225 = .ok (.iconst 1, 1) := by decide +kernel
theorem d_MD_one_226 : decode b_MD_one 226 = .ok (.iadd, 1) := by decide +kernel
theorem d_MD_one_227 : decode b_MD_one 227 = .ok (.putfield 94, 3) := by decide +kernel
theorem d_MD_one_230 : decode b_MD_one 230 = .ok (.return_, 1) := by decide +kernel
theorem d_MD_agrees_0 : decode b_MD_agrees 0 = .ok (.iload_n 1, 1) := by decide +kernel
theorem d_MD_agrees_1 : decode b_MD_agrees 1 = .ok (.iload_n 2, 1) := by decide +kernel
theorem d_MD_agrees_2 : decode b_MD_agrees 2 = .ok (.if_icmp .ne 5, 3) := by decide +kernel
theorem d_MD_agrees_5 : decode b_MD_agrees 5 = .ok (.iload_n 3, 1) := by decide +kernel
theorem d_MD_agrees_6 : decode b_MD_agrees 6 = .ok (.ireturn, 1) := by decide +kernel
theorem d_MD_agrees_7 : decode b_MD_agrees 7 = .ok (.aload_n 0, 1) := by decide +kernel
theorem d_MD_agrees_8 : decode b_MD_agrees 8 = .ok (.iload_n 1, 1) := by decide +kernel
theorem d_MD_agrees_9 : decode b_MD_agrees 9 = .ok (.iload_n 2, 1) := by decide +kernel
theorem d_MD_agrees_10 : decode b_MD_agrees 10 = .ok (.invokevirtual 90, 3) := by decide +kernel
theorem d_MD_agrees_13 : decode b_MD_agrees 13 = .ok (.ifCond .eq 13, 3) := by decide +kernel
theorem d_MD_agrees_16 : decode b_MD_agrees 16 = .ok (.aload_n 0, 1) := by decide +kernel
theorem d_MD_agrees_17 : decode b_MD_agrees 17 = .ok (.iload_n 1, 1) := by decide +kernel
theorem d_MD_agrees_18 : decode b_MD_agrees 18 = .ok (.iload_n 2, 1) := by decide +kernel
theorem d_MD_agrees_19 : decode b_MD_agrees 19 = .ok (.iload_n 3, 1) := by decide +kernel
theorem d_MD_agrees_20 : decode b_MD_agrees 20 = .ok (.invokevirtual 123, 3) := by decide +kernel
theorem d_MD_agrees_23 : decode b_MD_agrees 23 = .ok (.goto 4, 3) := by decide +kernel
theorem d_MD_agrees_26 : decode b_MD_agrees 26 = .ok (.iconst 0, 1) := by decide +kernel
theorem d_MD_agrees_27 : decode b_MD_agrees 27 = .ok (.ireturn, 1) := by decide +kernel
theorem d_MD_member_0 : decode b_MD_member 0 = .ok (.aload_n 0, 1) := by decide +kernel
theorem d_MD_member_1 : decode b_MD_member 1 = .ok (.getfield 25, 3) := by decide +kernel
theorem d_MD_member_4 : decode b_MD_member 4 = .ok (.iload_n 1, 1) := by decide +kernel
theorem d_MD_member_5 : decode b_MD_member 5 = .ok (.iaload, 1) := by decide +kernel
theorem d_MD_member_6 : decode b_MD_member 6 = .ok (.iload_n 2, 1) := by decide +kernel
theorem d_MD_member_7 : decode b_MD_member 7 = .ok (.ishr, 1) := by decide +kernel
theorem d_MD_member_8 : decode b_MD_member 8 = .ok (.iconst 1, 1) := by decide +kernel
theorem d_MD_member_9 : decode b_MD_member 9 = .ok (.iand, 1) := by decide +kernel
theorem d_MD_member_10 : decode b_MD_member 10 = .ok (.iconst 1, 1) := by decide +kernel
theorem d_MD_member_11 : decode b_MD_member 11 = .ok (.if_icmp .ne 7, 3) := by decide +kernel
theorem d_MD_member_14 : decode b_MD_member 14 = .ok (.iconst 1, 1) := by decide +kernel
theorem d_MD_member_15 : decode b_MD_member 15 = .ok (.goto 4, 3) := by decide +kernel
theorem d_MD_member_18 : decode b_MD_member 18 = .ok (.iconst 0, 1) := by decide +kernel
theorem d_MD_member_19 : decode b_MD_member 19 = .ok (.ireturn, 1) := by decide +kernel
theorem d_MD_makesOfOne_0 : decode b_MD_makesOfOne 0 = .ok (.aload_n 0, 1) := by decide +kernel
theorem d_MD_makesOfOne_1 : decode b_MD_makesOfOne 1 = .ok (.iload_n 1, 1) := by decide +kernel
theorem d_MD_makesOfOne_2 : decode b_MD_makesOfOne 2 = .ok (.iload_n 2, 1) := by decide +kernel
theorem d_MD_makesOfOne_3 : decode b_MD_makesOfOne 3 = .ok (.iconst (-1), 1) := by decide +kernel
theorem d_MD_makesOfOne_4 : decode b_MD_makesOfOne 4 = .ok (.iconst (-1), 1) := by decide +kernel
theorem d_MD_makesOfOne_5 : decode b_MD_makesOfOne 5 = .ok (.iload_n 3, 1) := by decide +kernel
theorem d_MD_makesOfOne_6 : decode b_MD_makesOfOne 6 = .ok (.invokevirtual 107, 3) := by decide +kernel
theorem d_MD_makesOfOne_9 : decode b_MD_makesOfOne 9 = .ok (.istore 4, 2) := by decide +kernel
theorem d_MD_makesOfOne_11 : decode b_MD_makesOfOne 11 = .ok (.aload_n 0, 1) := by decide +kernel
theorem d_MD_makesOfOne_12 : decode b_MD_makesOfOne 12 = .ok (.iload_n 1, 1) := by decide +kernel
theorem d_MD_makesOfOne_13 : decode b_MD_makesOfOne 13 = .ok (.invokevirtual 111, 3) := by decide +kernel
theorem d_MD_makesOfOne_16 : decode b_MD_makesOfOne 16 = .ok (.ifCond .ne 6, 3) := by decide +kernel
theorem d_MD_makesOfOne_19 : decode b_MD_makesOfOne 19 = .ok (.iload 4, 2) := by decide +kernel
theorem d_MD_makesOfOne_21 : decode b_MD_makesOfOne 21 = .ok (.ireturn, 1) := by decide +kernel
theorem d_MD_makesOfOne_22 : decode b_MD_makesOfOne 22 = .ok (.aload_n 0, 1) := by decide +kernel
theorem d_MD_makesOfOne_23 : decode b_MD_makesOfOne 23 = .ok (.getfield 70, 3) := by decide +kernel
theorem d_MD_makesOfOne_26 : decode b_MD_makesOfOne 26 = .ok (.iconst 0, 1) := by decide +kernel
theorem d_MD_makesOfOne_27 : decode b_MD_makesOfOne 27 = .ok (.iload 4, 2) := by decide +kernel
theorem d_MD_makesOfOne_29 : decode b_MD_makesOfOne 29 = .ok (.iastore, 1) := by decide +kernel
theorem d_MD_makesOfOne_30 : decode b_MD_makesOfOne 30 = .ok (.iconst 1, 1) := by decide +kernel
theorem d_MD_makesOfOne_31 : decode b_MD_makesOfOne 31 = .ok (.istore 5, 2) := by decide +kernel
theorem d_MD_makesOfOne_33 : decode b_MD_makesOfOne 33 = .ok (.iconst 0, 1) := by decide +kernel
theorem d_MD_makesOfOne_34 : decode b_MD_makesOfOne 34 = .ok (.istore 6, 2) := by decide +kernel
theorem d_MD_makesOfOne_36 : decode b_MD_makesOfOne 36 = .ok (.iload 6, 2) := by decide +kernel
theorem d_MD_makesOfOne_38 : decode b_MD_makesOfOne 38 = .ok (.aload_n 0, 1) := by decide +kernel
theorem d_MD_makesOfOne_39 : decode b_MD_makesOfOne 39 = .ok (.getfield 73, 3) := by decide +kernel
theorem d_MD_makesOfOne_42 : decode b_MD_makesOfOne 42 = .ok (.if_icmp .ge 50, 3) := by decide +kernel
theorem d_MD_makesOfOne_45 : decode b_MD_makesOfOne 45 = .ok (.aload_n 0, 1) := by decide +kernel
theorem d_MD_makesOfOne_46 : decode b_MD_makesOfOne 46 = .ok (.iload_n 1, 1) := by decide +kernel
theorem d_MD_makesOfOne_47 : decode b_MD_makesOfOne 47 = .ok (.iload 6, 2) := by decide +kernel
theorem d_MD_makesOfOne_49 : decode b_MD_makesOfOne 49 = .ok (.invokevirtual 90, 3) := by decide +kernel
theorem d_MD_makesOfOne_52 : decode b_MD_makesOfOne 52 = .ok (.ifCond .eq 34, 3) := by decide +kernel
theorem d_MD_makesOfOne_55 : decode b_MD_makesOfOne 55 = .ok (.iload 6, 2) := by decide +kernel
theorem d_MD_makesOfOne_57 : decode b_MD_makesOfOne 57 = .ok (.iload_n 1, 1) := by decide +kernel
theorem d_MD_makesOfOne_58 : decode b_MD_makesOfOne 58 = .ok (.if_icmp .eq 28, 3) := by decide +kernel
theorem d_MD_makesOfOne_61 : decode b_MD_makesOfOne 61 = .ok (.iload 6, 2) := by decide +kernel
theorem d_MD_makesOfOne_63 : decode b_MD_makesOfOne 63 = .ok (.iload_n 2, 1) := by decide +kernel
theorem d_MD_makesOfOne_64 : decode b_MD_makesOfOne 64 = .ok (.if_icmp .eq 22, 3) := by decide +kernel
theorem d_MD_makesOfOne_67 : decode b_MD_makesOfOne 67 = .ok (.aload_n 0, 1) := by decide +kernel
theorem d_MD_makesOfOne_68 : decode b_MD_makesOfOne 68 = .ok (.getfield 70, 3) := by decide +kernel
theorem d_MD_makesOfOne_71 : decode b_MD_makesOfOne 71 = .ok (.iload 5, 2) := by decide +kernel
theorem d_MD_makesOfOne_73 : decode b_MD_makesOfOne 73 = .ok (.aload_n 0, 1) := by decide +kernel
theorem d_MD_makesOfOne_74 : decode b_MD_makesOfOne 74 = .ok (.iload_n 1, 1) := by decide +kernel
theorem d_MD_makesOfOne_75 : decode b_MD_makesOfOne 75 = .ok (.iload_n 2, 1) := by decide +kernel
theorem d_MD_makesOfOne_76 : decode b_MD_makesOfOne 76 = .ok (.iload 6, 2) := by decide +kernel
theorem d_MD_makesOfOne_78 : decode b_MD_makesOfOne 78 = .ok (.iload_n 3, 1) := by decide +kernel
theorem d_MD_makesOfOne_79 : decode b_MD_makesOfOne 79 = .ok (.invokevirtual 119, 3) := by decide +kernel
theorem d_MD_makesOfOne_82 : decode b_MD_makesOfOne 82 = .ok (.iastore, 1) := by decide +kernel
theorem d_MD_makesOfOne_83 : decode b_MD_makesOfOne 83 = .ok (.iinc 5 1, 3) := by decide +kernel
theorem d_MD_makesOfOne_86 : decode b_MD_makesOfOne 86 = .ok (.iinc 6 1, 3) := by decide +kernel
theorem d_MD_makesOfOne_89 : decode b_MD_makesOfOne 89 = .ok (.goto (-53), 3) := by decide +kernel
theorem d_MD_makesOfOne_92 : decode b_MD_makesOfOne 92 = .ok (.aload_n 0, 1) := by decide +kernel
theorem d_MD_makesOfOne_93 : decode b_MD_makesOfOne 93 = .ok (.iconst 0, 1) := by decide +kernel
theorem d_MD_makesOfOne_94 : decode b_MD_makesOfOne 94 = .ok (.iload 5, 2) := by decide +kernel
theorem d_MD_makesOfOne_96 : decode b_MD_makesOfOne 96 = .ok (.invokevirtual 115, 3) := by decide +kernel
theorem d_MD_makesOfOne_99 : decode b_MD_makesOfOne 99 = .ok (.ireturn, 1) := by decide +kernel
theorem d_MD_holds_0 : decode b_MD_holds 0 = .ok (.iload 5, 2) := by decide +kernel
theorem d_MD_holds_2 : decode b_MD_holds 2 = .ok (.istore 6, 2) := by decide +kernel
theorem d_MD_holds_4 : decode b_MD_holds 4 = .ok (.iload_n 2, 1) := by decide +kernel
theorem d_MD_holds_5 : decode b_MD_holds 5 = .ok (.istore 7, 2) := by decide +kernel
theorem d_MD_holds_7 : decode b_MD_holds 7 = .ok (.iload_n 3, 1) := by decide +kernel
theorem d_MD_holds_8 : decode b_MD_holds 8 = .ok (.ifCond .lt 17, 3) := by decide +kernel
theorem d_MD_holds_11 : decode b_MD_holds 11 = .ok (.aload_n 0, 1) := by decide +kernel
theorem d_MD_holds_12 : decode b_MD_holds 12 = .ok (.iload 7, 2) := by decide +kernel
theorem d_MD_holds_14 : decode b_MD_holds 14 = .ok (.iload_n 3, 1) := by decide +kernel
theorem d_MD_holds_15 : decode b_MD_holds 15 = .ok (.iload 6, 2) := by decide +kernel
theorem d_MD_holds_17 : decode b_MD_holds 17 = .ok (.invokevirtual 104, 3) := by decide +kernel
theorem d_MD_holds_20 : decode b_MD_holds 20 = .ok (.istore 6, 2) := by decide +kernel
theorem d_MD_holds_22 : decode b_MD_holds 22 = .ok (.iload_n 3, 1) := by decide +kernel
theorem d_MD_holds_23 : decode b_MD_holds 23 = .ok (.istore 7, 2) := by decide +kernel
theorem d_MD_holds_25 : decode b_MD_holds 25 = .ok (.iload 4, 2) := by decide +kernel
theorem d_MD_holds_27 : decode b_MD_holds 27 = .ok (.ifCond .lt 19, 3) := by decide +kernel
theorem d_MD_holds_30 : decode b_MD_holds 30 = .ok (.aload_n 0, 1) := by decide +kernel
theorem d_MD_holds_31 : decode b_MD_holds 31 = .ok (.iload 7, 2) := by decide +kernel
theorem d_MD_holds_33 : decode b_MD_holds 33 = .ok (.iload 4, 2) := by decide +kernel
theorem d_MD_holds_35 : decode b_MD_holds 35 = .ok (.iload 6, 2) := by decide +kernel
theorem d_MD_holds_37 : decode b_MD_holds 37 = .ok (.invokevirtual 104, 3) := by decide +kernel
theorem d_MD_holds_40 : decode b_MD_holds 40 = .ok (.istore 6, 2) := by decide +kernel
theorem d_MD_holds_42 : decode b_MD_holds 42 = .ok (.iload 4, 2) := by decide +kernel
theorem d_MD_holds_44 : decode b_MD_holds 44 = .ok (.istore 7, 2) := by decide +kernel
theorem d_MD_holds_46 : decode b_MD_holds 46 = .ok (.aload_n 0, 1) := by decide +kernel
theorem d_MD_holds_47 : decode b_MD_holds 47 = .ok (.iload 7, 2) := by decide +kernel
theorem d_MD_holds_49 : decode b_MD_holds 49 = .ok (.iload_n 1, 1) := by decide +kernel
theorem d_MD_holds_50 : decode b_MD_holds 50 = .ok (.iload 6, 2) := by decide +kernel
theorem d_MD_holds_52 : decode b_MD_holds 52 = .ok (.invokevirtual 104, 3) := by decide +kernel
theorem d_MD_holds_55 : decode b_MD_holds 55 = .ok (.ireturn, 1) := by decide +kernel
theorem d_MD_sent_0 : decode b_MD_sent 0 = .ok (.aload_n 0, 1) := by decide +kernel
theorem d_MD_sent_1 : decode b_MD_sent 1 = .ok (.iload_n 1, 1) := by decide +kernel
theorem d_MD_sent_2 : decode b_MD_sent 2 = .ok (.iload_n 2, 1) := by decide +kernel
theorem d_MD_sent_3 : decode b_MD_sent 3 = .ok (.invokevirtual 97, 3) := by decide +kernel
theorem d_MD_sent_6 : decode b_MD_sent 6 = .ok (.ifCond .eq 13, 3) := by decide +kernel
theorem d_MD_sent_9 : decode b_MD_sent 9 = .ok (.aload_n 0, 1) := by decide +kernel
theorem d_MD_sent_10 : decode b_MD_sent 10 = .ok (.iload_n 1, 1) := by decide +kernel
theorem d_MD_sent_11 : decode b_MD_sent 11 = .ok (.iload_n 2, 1) := by decide +kernel
theorem d_MD_sent_12 : decode b_MD_sent 12 = .ok (.iload_n 3, 1) := by decide +kernel
theorem d_MD_sent_13 : decode b_MD_sent 13 = .ok (.invokevirtual 100, 3) := by decide +kernel
theorem d_MD_sent_16 : decode b_MD_sent 16 = .ok (.goto 4, 3) := by decide +kernel
theorem d_MD_sent_19 : decode b_MD_sent 19 = .ok (.iconst 0, 1) := by decide +kernel
theorem d_MD_sent_20 : decode b_MD_sent 20 = .ok (.ireturn, 1) := by decide +kernel
theorem d_MD_through_0 : decode b_MD_through 0 = .ok (.aload_n 0, 1) := by decide +kernel
theorem d_MD_through_1 : decode b_MD_through 1 = .ok (.iload_n 2, 1) := by decide +kernel
theorem d_MD_through_2 : decode b_MD_through 2 = .ok (.iload_n 1, 1) := by decide +kernel
theorem d_MD_through_3 : decode b_MD_through 3 = .ok (.invokevirtual 90, 3) := by decide +kernel
theorem d_MD_through_6 : decode b_MD_through 6 = .ok (.ifCond .eq 13, 3) := by decide +kernel
theorem d_MD_through_9 : decode b_MD_through 9 = .ok (.aload_n 0, 1) := by decide +kernel
theorem d_MD_through_10 : decode b_MD_through 10 = .ok (.getfield 19, 3) := by decide +kernel
theorem d_MD_through_13 : decode b_MD_through 13 = .ok (.iload_n 1, 1) := by decide +kernel
theorem d_MD_through_14 : decode b_MD_through 14 = .ok (.iaload, 1) := by decide +kernel
theorem d_MD_through_15 : decode b_MD_through 15 = .ok (.iconst 1, 1) := by decide +kernel
theorem d_MD_through_16 : decode b_MD_through 16 = .ok (.if_icmp .ne 5, 3) := by decide +kernel
theorem d_MD_through_19 : decode b_MD_through 19 = .ok (.iconst 0, 1) := by decide +kernel
theorem d_MD_through_20 : decode b_MD_through 20 = .ok (.ireturn, 1) := by decide +kernel
theorem d_MD_through_21 : decode b_MD_through 21 = .ok (.aload_n 0, 1) := by decide +kernel
theorem d_MD_through_22 : decode b_MD_through 22 = .ok (.getfield 7, 3) := by decide +kernel
theorem d_MD_through_25 : decode b_MD_through 25 = .ok (.iload_n 2, 1) := by decide +kernel
theorem d_MD_through_26 : decode b_MD_through 26 = .ok (.iaload, 1) := by decide +kernel
theorem d_MD_through_27 : decode b_MD_through 27 = .ok (.aload_n 0, 1) := by decide +kernel
theorem d_MD_through_28 : decode b_MD_through 28 = .ok (.getfield 7, 3) := by decide +kernel
theorem d_MD_through_31 : decode b_MD_through 31 = .ok (.iload_n 1, 1) := by decide +kernel
theorem d_MD_through_32 : decode b_MD_through 32 = .ok (.iaload, 1) := by decide +kernel
theorem d_MD_through_33 : decode b_MD_through 33 = .ok (.isub, 1) := by decide +kernel
theorem d_MD_through_34 : decode b_MD_through 34 = .ok (.aload_n 0, 1) := by decide +kernel
theorem d_MD_through_35 : decode b_MD_through 35 = .ok (.getfield 46, 3) := by decide +kernel
theorem d_MD_through_38 : decode b_MD_through 38 = .ok (.bipush 7, 2) := by decide +kernel
theorem d_MD_through_40 : decode b_MD_through 40 = .ok (.iload_n 1, 1) := by decide +kernel
theorem d_MD_through_41 : decode b_MD_through 41 = .ok (.imul, 1) := by decide +kernel
theorem d_MD_through_42 : decode b_MD_through 42 = .ok (.iload_n 2, 1) := by decide +kernel
theorem d_MD_through_43 : decode b_MD_through 43 = .ok (.iadd, 1) := by decide +kernel
theorem d_MD_through_44 : decode b_MD_through 44 = .ok (.iaload, 1) := by decide +kernel
theorem d_MD_through_45 : decode b_MD_through 45 = .ok (.iadd, 1) := by decide +kernel
theorem d_MD_through_46 : decode b_MD_through 46 = .ok (.istore_n 3, 1) := by decide +kernel
theorem d_MD_through_47 : decode b_MD_through 47 = .ok (.iload_n 3, 1) := by decide +kernel
theorem d_MD_through_48 : decode b_MD_through 48 = .ok (.aload_n 0, 1) := by decide +kernel
theorem d_MD_through_49 : decode b_MD_through 49 = .ok (.getfield 80, 3) := by decide +kernel
theorem d_MD_through_52 : decode b_MD_through 52 = .ok (.bipush 20, 2) := by decide +kernel
theorem d_MD_through_54 : decode b_MD_through 54 = .ok (.iadd, 1) := by decide +kernel
theorem d_MD_through_55 : decode b_MD_through 55 = .ok (.ineg, 1) := by decide +kernel
theorem d_MD_through_56 : decode b_MD_through 56 = .ok (.if_icmp .lt 18, 3) := by decide +kernel
theorem d_MD_through_59 : decode b_MD_through 59 = .ok (.iload_n 3, 1) := by decide +kernel
theorem d_MD_through_60 : decode b_MD_through 60 = .ok (.aload_n 0, 1) := by decide +kernel
theorem d_MD_through_61 : decode b_MD_through 61 = .ok (.getfield 80, 3) := by decide +kernel
theorem d_MD_through_64 : decode b_MD_through 64 = .ok (.bipush 20, 2) := by decide +kernel
theorem d_MD_through_66 : decode b_MD_through 66 = .ok (.iadd, 1) := by decide +kernel
theorem d_MD_through_67 : decode b_MD_through 67 = .ok (.if_icmp .gt 7, 3) := by decide +kernel
theorem d_MD_through_70 : decode b_MD_through 70 = .ok (.iconst 1, 1) := by decide +kernel
theorem d_MD_through_71 : decode b_MD_through 71 = .ok (.goto 4, 3) := by decide +kernel
theorem d_MD_through_74 : decode b_MD_through 74 = .ok (.iconst 0, 1) := by decide +kernel
theorem d_MD_through_75 : decode b_MD_through 75 = .ok (.ireturn, 1) := by decide +kernel
theorem d_MD_says_0 : decode b_MD_says 0 = .ok (.aload_n 0, 1) := by decide +kernel
theorem d_MD_says_1 : decode b_MD_says 1 = .ok (.getfield 22, 3) := by decide +kernel
theorem d_MD_says_4 : decode b_MD_says 4 = .ok (.iload_n 1, 1) := by decide +kernel
theorem d_MD_says_5 : decode b_MD_says 5 = .ok (.iaload, 1) := by decide +kernel
theorem d_MD_says_6 : decode b_MD_says 6 = .ok (.istore 4, 2) := by decide +kernel
theorem d_MD_says_8 : decode b_MD_says 8 = .ok (.aload_n 0, 1) := by decide +kernel
theorem d_MD_says_9 : decode b_MD_says 9 = .ok (.getfield 19, 3) := by decide +kernel
theorem d_MD_says_12 : decode b_MD_says 12 = .ok (.iload_n 1, 1) := by decide +kernel
theorem d_MD_says_13 : decode b_MD_says 13 = .ok (.iaload, 1) := by decide +kernel
theorem d_MD_says_14 : decode b_MD_says 14 = .ok (.tableswitch 75 2 5 #[30, 33, 49, 58], 30) := by decide +kernel
theorem d_MD_says_44 : decode b_MD_says 44 = .ok (.iload 4, 2) := by decide +kernel
theorem d_MD_says_46 : decode b_MD_says 46 = .ok (.ireturn, 1) := by decide +kernel
theorem d_MD_says_47 : decode b_MD_says 47 = .ok (.iload_n 2, 1) := by decide +kernel
theorem d_MD_says_48 : decode b_MD_says 48 = .ok (.iconst 2, 1) := by decide +kernel
theorem d_MD_says_49 : decode b_MD_says 49 = .ok (.irem, 1) := by decide +kernel
theorem d_MD_says_50 : decode b_MD_says 50 = .ok (.iconst 1, 1) := by decide +kernel
theorem d_MD_says_51 : decode b_MD_says 51 = .ok (.if_icmp .ne 10, 3) := by decide +kernel
theorem d_MD_says_54 : decode b_MD_says 54 = .ok (.iload_n 3, 1) := by decide +kernel
theorem d_MD_says_55 : decode b_MD_says 55 = .ok (.iload 4, 2) := by decide +kernel
theorem d_MD_says_57 : decode b_MD_says 57 = .ok (.iadd, 1) := by decide +kernel
theorem d_MD_says_58 : decode b_MD_says 58 = .ok (.goto 4, 3) := by decide +kernel
theorem d_MD_says_61 : decode b_MD_says 61 = .ok (.iload_n 3, 1) := by decide +kernel
theorem d_MD_says_62 : decode b_MD_says 62 = .ok (.ireturn, 1) := by decide +kernel
theorem d_MD_says_63 : decode b_MD_says 63 = .ok (.iload_n 3, 1) := by decide +kernel
theorem d_MD_says_64 : decode b_MD_says 64 = .ok (.iload 4, 2) := by decide +kernel
theorem d_MD_says_66 : decode b_MD_says 66 = .ok (.iload_n 2, 1) := by decide +kernel
theorem d_MD_says_67 : decode b_MD_says 67 = .ok (.iconst 1, 1) := by decide +kernel
theorem d_MD_says_68 : decode b_MD_says 68 = .ok (.iadd, 1) := by decide +kernel
theorem d_MD_says_69 : decode b_MD_says 69 = .ok (.imul, 1) := by decide +kernel
theorem d_MD_says_70 : decode b_MD_says 70 = .ok (.iadd, 1) := by decide +kernel
theorem d_MD_says_71 : decode b_MD_says 71 = .ok (.ireturn, 1) := by decide +kernel
theorem d_MD_says_72 : decode b_MD_says 72 = .ok (.aload_n 0, 1) := by decide +kernel
theorem d_MD_says_73 : decode b_MD_says 73 = .ok (.getfield 94, 3) := by decide +kernel
theorem d_MD_says_76 : decode b_MD_says 76 = .ok (.iconst 2, 1) := by decide +kernel
theorem d_MD_says_77 : decode b_MD_says 77 = .ok (.irem, 1) := by decide +kernel
theorem d_MD_says_78 : decode b_MD_says 78 = .ok (.iconst 1, 1) := by decide +kernel
theorem d_MD_says_79 : decode b_MD_says 79 = .ok (.if_icmp .ne 8, 3) := by decide +kernel
theorem d_MD_says_82 : decode b_MD_says 82 = .ok (.iload 4, 2) := by decide +kernel
theorem d_MD_says_84 : decode b_MD_says 84 = .ok (.goto 4, 3) := by decide +kernel
theorem d_MD_says_87 : decode b_MD_says 87 = .ok (.iload_n 3, 1) := by decide +kernel
theorem d_MD_says_88 : decode b_MD_says 88 = .ok (.ireturn, 1) := by decide +kernel
theorem d_MD_says_89 : decode b_MD_says 89 = .ok (.iload_n 3, 1) := by decide +kernel
theorem d_MD_says_90 : decode b_MD_says 90 = .ok (.ireturn, 1) := by decide +kernel
theorem d_MD_bears_0 : decode b_MD_bears 0 = .ok (.aload_n 0, 1) := by decide +kernel
theorem d_MD_bears_1 : decode b_MD_bears 1 = .ok (.iload_n 1, 1) := by decide +kernel
theorem d_MD_bears_2 : decode b_MD_bears 2 = .ok (.invokevirtual 83, 3) := by decide +kernel
theorem d_MD_bears_5 : decode b_MD_bears 5 = .ok (.ifCond .ne 5, 3) := by decide +kernel
theorem d_MD_bears_8 : decode b_MD_bears 8 = .ok (.iconst 0, 1) := by decide +kernel
theorem d_MD_bears_9 : decode b_MD_bears 9 = .ok (.ireturn, 1) := by decide +kernel
theorem d_MD_bears_10 : decode b_MD_bears 10 = .ok (.aload_n 0, 1) := by decide +kernel
theorem d_MD_bears_11 : decode b_MD_bears 11 = .ok (.iload_n 1, 1) := by decide +kernel
theorem d_MD_bears_12 : decode b_MD_bears 12 = .ok (.invokevirtual 142, 3) := by decide +kernel
theorem d_MD_bears_15 : decode b_MD_bears 15 = .ok (.iconst 1, 1) := by decide +kernel
theorem d_MD_bears_16 : decode b_MD_bears 16 = .ok (.isub, 1) := by decide +kernel
theorem d_MD_bears_17 : decode b_MD_bears 17 = .ok (.iconst 3, 1) := by decide +kernel
theorem d_MD_bears_18 : decode b_MD_bears 18 = .ok (.idiv, 1) := by decide +kernel
theorem d_MD_bears_19 : decode b_MD_bears 19 = .ok (.istore_n 2, 1) := by decide +kernel
theorem d_MD_bears_20 : decode b_MD_bears 20 = .ok (.aload_n 0, 1) := by decide +kernel
theorem d_MD_bears_21 : decode b_MD_bears 21 = .ok (.getfield 77, 3) := by decide +kernel
theorem d_MD_bears_24 : decode b_MD_bears 24 = .ok (.iload_n 2, 1) := by decide +kernel
theorem d_MD_bears_25 : decode b_MD_bears 25 = .ok (.if_icmp .ge 10, 3) := by decide +kernel
theorem d_MD_bears_28 : decode b_MD_bears 28 = .ok (.aload_n 0, 1) := by decide +kernel
theorem d_MD_bears_29 : decode b_MD_bears 29 = .ok (.getfield 77, 3) := by decide +kernel
theorem d_MD_bears_32 : decode b_MD_bears 32 = .ok (.goto 4, 3) := by decide +kernel
theorem d_MD_bears_35 : decode b_MD_bears 35 = .ok (.iload_n 2, 1) := by decide +kernel
theorem d_MD_bears_36 : decode b_MD_bears 36 = .ok (.ireturn, 1) := by decide +kernel
theorem d_MD_size_0 : decode b_MD_size 0 = .ok (.iconst 0, 1) := by decide +kernel
theorem d_MD_size_1 : decode b_MD_size 1 = .ok (.istore_n 2, 1) := by decide +kernel
theorem d_MD_size_2 : decode b_MD_size 2 = .ok (.iconst 0, 1) := by decide +kernel
theorem d_MD_size_3 : decode b_MD_size 3 = .ok (.istore_n 3, 1) := by decide +kernel
theorem d_MD_size_4 : decode b_MD_size 4 = .ok (.iload_n 3, 1) := by decide +kernel
theorem d_MD_size_5 : decode b_MD_size 5 = .ok (.aload_n 0, 1) := by decide +kernel
theorem d_MD_size_6 : decode b_MD_size 6 = .ok (.getfield 73, 3) := by decide +kernel
theorem d_MD_size_9 : decode b_MD_size 9 = .ok (.if_icmp .ge 26, 3) := by decide +kernel
theorem d_MD_size_12 : decode b_MD_size 12 = .ok (.aload_n 0, 1) := by decide +kernel
theorem d_MD_size_13 : decode b_MD_size 13 = .ok (.iload_n 1, 1) := by decide +kernel
theorem d_MD_size_14 : decode b_MD_size 14 = .ok (.iload_n 3, 1) := by decide +kernel
theorem d_MD_size_15 : decode b_MD_size 15 = .ok (.invokevirtual 90, 3) := by decide +kernel
theorem d_MD_size_18 : decode b_MD_size 18 = .ok (.ifCond .eq 9, 3) := by decide +kernel
theorem d_MD_size_21 : decode b_MD_size 21 = .ok (.iload_n 2, 1) := by decide +kernel
theorem d_MD_size_22 : decode b_MD_size 22 = .ok (.iconst 1, 1) := by decide +kernel
theorem d_MD_size_23 : decode b_MD_size 23 = .ok (.iadd, 1) := by decide +kernel
theorem d_MD_size_24 : decode b_MD_size 24 = .ok (.goto 4, 3) := by decide +kernel
theorem d_MD_size_27 : decode b_MD_size 27 = .ok (.iload_n 2, 1) := by decide +kernel
theorem d_MD_size_28 : decode b_MD_size 28 = .ok (.istore_n 2, 1) := by decide +kernel
theorem d_MD_size_29 : decode b_MD_size 29 = .ok (.iinc 3 1, 3) := by decide +kernel
theorem d_MD_size_32 : decode b_MD_size 32 = .ok (.goto (-28), 3) := by decide +kernel
theorem d_MD_size_35 : decode b_MD_size 35 = .ok (.iload_n 2, 1) := by decide +kernel
theorem d_MD_size_36 : decode b_MD_size 36 = .ok (.ireturn, 1) := by decide +kernel
theorem d_MD_makesOfTwo_0 : decode b_MD_makesOfTwo 0 = .ok (.aload_n 0, 1) := by decide +kernel
theorem d_MD_makesOfTwo_1 : decode b_MD_makesOfTwo 1 = .ok (.iload_n 1, 1) := by decide +kernel
theorem d_MD_makesOfTwo_2 : decode b_MD_makesOfTwo 2 = .ok (.iload_n 2, 1) := by decide +kernel
theorem d_MD_makesOfTwo_3 : decode b_MD_makesOfTwo 3 = .ok (.iload_n 3, 1) := by decide +kernel
theorem d_MD_makesOfTwo_4 : decode b_MD_makesOfTwo 4 = .ok (.iconst (-1), 1) := by decide +kernel
theorem d_MD_makesOfTwo_5 : decode b_MD_makesOfTwo 5 = .ok (.iload 4, 2) := by decide +kernel
theorem d_MD_makesOfTwo_7 : decode b_MD_makesOfTwo 7 = .ok (.invokevirtual 107, 3) := by decide +kernel
theorem d_MD_makesOfTwo_10 : decode b_MD_makesOfTwo 10 = .ok (.istore 5, 2) := by decide +kernel
theorem d_MD_makesOfTwo_12 : decode b_MD_makesOfTwo 12 = .ok (.aload_n 0, 1) := by decide +kernel
theorem d_MD_makesOfTwo_13 : decode b_MD_makesOfTwo 13 = .ok (.iload_n 1, 1) := by decide +kernel
theorem d_MD_makesOfTwo_14 : decode b_MD_makesOfTwo 14 = .ok (.invokevirtual 111, 3) := by decide +kernel
theorem d_MD_makesOfTwo_17 : decode b_MD_makesOfTwo 17 = .ok (.iconst 1, 1) := by decide +kernel
theorem d_MD_makesOfTwo_18 : decode b_MD_makesOfTwo 18 = .ok (.if_icmp .ne 6, 3) := by decide +kernel
theorem d_MD_makesOfTwo_21 : decode b_MD_makesOfTwo 21 = .ok (.iload 5, 2) := by decide +kernel
theorem d_MD_makesOfTwo_23 : decode b_MD_makesOfTwo 23 = .ok (.ireturn, 1) := by decide +kernel
theorem d_MD_makesOfTwo_24 : decode b_MD_makesOfTwo 24 = .ok (.aload_n 0, 1) := by decide +kernel
theorem d_MD_makesOfTwo_25 : decode b_MD_makesOfTwo 25 = .ok (.getfield 70, 3) := by decide +kernel
theorem d_MD_makesOfTwo_28 : decode b_MD_makesOfTwo 28 = .ok (.bipush 8, 2) := by decide +kernel
theorem d_MD_makesOfTwo_30 : decode b_MD_makesOfTwo 30 = .ok (.iload 5, 2) := by decide +kernel
theorem d_MD_makesOfTwo_32 : decode b_MD_makesOfTwo 32 = .ok (.iastore, 1) := by decide +kernel
theorem d_MD_makesOfTwo_33 : decode b_MD_makesOfTwo 33 = .ok (.iconst 1, 1) := by decide +kernel
theorem d_MD_makesOfTwo_34 : decode b_MD_makesOfTwo 34 = .ok (.istore 6, 2) := by decide +kernel
theorem d_MD_makesOfTwo_36 : decode b_MD_makesOfTwo 36 = .ok (.iconst 0, 1) := by decide +kernel
theorem d_MD_makesOfTwo_37 : decode b_MD_makesOfTwo 37 = .ok (.istore 7, 2) := by decide +kernel
theorem d_MD_makesOfTwo_39 : decode b_MD_makesOfTwo 39 = .ok (.iload 7, 2) := by decide +kernel
theorem d_MD_makesOfTwo_41 : decode b_MD_makesOfTwo 41 = .ok (.aload_n 0, 1) := by decide +kernel
theorem d_MD_makesOfTwo_42 : decode b_MD_makesOfTwo 42 = .ok (.getfield 73, 3) := by decide +kernel
theorem d_MD_makesOfTwo_45 : decode b_MD_makesOfTwo 45 = .ok (.if_icmp .ge 61, 3) := by decide +kernel
theorem d_MD_makesOfTwo_48 : decode b_MD_makesOfTwo 48 = .ok (.aload_n 0, 1) := by decide +kernel
theorem d_MD_makesOfTwo_49 : decode b_MD_makesOfTwo 49 = .ok (.iload_n 1, 1) := by decide +kernel
theorem d_MD_makesOfTwo_50 : decode b_MD_makesOfTwo 50 = .ok (.iload 7, 2) := by decide +kernel
theorem d_MD_makesOfTwo_52 : decode b_MD_makesOfTwo 52 = .ok (.invokevirtual 90, 3) := by decide +kernel
theorem d_MD_makesOfTwo_55 : decode b_MD_makesOfTwo 55 = .ok (.ifCond .eq 45, 3) := by decide +kernel
theorem d_MD_makesOfTwo_58 : decode b_MD_makesOfTwo 58 = .ok (.iload 7, 2) := by decide +kernel
theorem d_MD_makesOfTwo_60 : decode b_MD_makesOfTwo 60 = .ok (.iload_n 1, 1) := by decide +kernel
theorem d_MD_makesOfTwo_61 : decode b_MD_makesOfTwo 61 = .ok (.if_icmp .eq 39, 3) := by decide +kernel
theorem d_MD_makesOfTwo_64 : decode b_MD_makesOfTwo 64 = .ok (.iload 7, 2) := by decide +kernel
theorem d_MD_makesOfTwo_66 : decode b_MD_makesOfTwo 66 = .ok (.iload_n 2, 1) := by decide +kernel
theorem d_MD_makesOfTwo_67 : decode b_MD_makesOfTwo 67 = .ok (.if_icmp .eq 33, 3) := by decide +kernel
theorem d_MD_makesOfTwo_70 : decode b_MD_makesOfTwo 70 = .ok (.iload 7, 2) := by decide +kernel
theorem d_MD_makesOfTwo_72 : decode b_MD_makesOfTwo 72 = .ok (.iload_n 3, 1) := by decide +kernel
theorem d_MD_makesOfTwo_73 : decode b_MD_makesOfTwo 73 = .ok (.if_icmp .eq 27, 3) := by decide +kernel
theorem d_MD_makesOfTwo_76 : decode b_MD_makesOfTwo 76 = .ok (.aload_n 0, 1) := by decide +kernel
theorem d_MD_makesOfTwo_77 : decode b_MD_makesOfTwo 77 = .ok (.getfield 70, 3) := by decide +kernel
theorem d_MD_makesOfTwo_80 : decode b_MD_makesOfTwo 80 = .ok (.bipush 8, 2) := by decide +kernel
theorem d_MD_makesOfTwo_82 : decode b_MD_makesOfTwo 82 = .ok (.iload 6, 2) := by decide +kernel
theorem d_MD_makesOfTwo_84 : decode b_MD_makesOfTwo 84 = .ok (.iadd, 1) := by decide +kernel
theorem d_MD_makesOfTwo_85 : decode b_MD_makesOfTwo 85 = .ok (.aload_n 0, 1) := by decide +kernel
theorem d_MD_makesOfTwo_86 : decode b_MD_makesOfTwo 86 = .ok (.iload_n 1, 1) := by decide +kernel
theorem d_MD_makesOfTwo_87 : decode b_MD_makesOfTwo 87 = .ok (.iload_n 2, 1) := by decide +kernel
theorem d_MD_makesOfTwo_88 : decode b_MD_makesOfTwo 88 = .ok (.iload_n 3, 1) := by decide +kernel
theorem d_MD_makesOfTwo_89 : decode b_MD_makesOfTwo 89 = .ok (.iload 7, 2) := by decide +kernel
theorem d_MD_makesOfTwo_91 : decode b_MD_makesOfTwo 91 = .ok (.iload 4, 2) := by decide +kernel
theorem d_MD_makesOfTwo_93 : decode b_MD_makesOfTwo 93 = .ok (.invokevirtual 107, 3) := by decide +kernel
theorem d_MD_makesOfTwo_96 : decode b_MD_makesOfTwo 96 = .ok (.iastore, 1) := by decide +kernel
theorem d_MD_makesOfTwo_97 : decode b_MD_makesOfTwo 97 = .ok (.iinc 6 1, 3) := by decide +kernel
theorem d_MD_makesOfTwo_100 : decode b_MD_makesOfTwo 100 = .ok (.iinc 7 1, 3) := by decide +kernel
theorem d_MD_makesOfTwo_103 : decode b_MD_makesOfTwo 103 = .ok (.goto (-64), 3) := by decide +kernel
theorem d_MD_makesOfTwo_106 : decode b_MD_makesOfTwo 106 = .ok (.aload_n 0, 1) := by decide +kernel
theorem d_MD_makesOfTwo_107 : decode b_MD_makesOfTwo 107 = .ok (.bipush 8, 2) := by decide +kernel
theorem d_MD_makesOfTwo_109 : decode b_MD_makesOfTwo 109 = .ok (.iload 6, 2) := by decide +kernel
theorem d_MD_makesOfTwo_111 : decode b_MD_makesOfTwo 111 = .ok (.invokevirtual 115, 3) := by decide +kernel
theorem d_MD_makesOfTwo_114 : decode b_MD_makesOfTwo 114 = .ok (.ireturn, 1) := by decide +kernel
theorem d_MD_majority_0 : decode b_MD_majority 0 = .ok (.iconst 0, 1) := by decide +kernel
theorem d_MD_majority_1 : decode b_MD_majority 1 = .ok (.istore_n 3, 1) := by decide +kernel
theorem d_MD_majority_2 : decode b_MD_majority 2 = .ok (.iload_n 3, 1) := by decide +kernel
theorem d_MD_majority_3 : decode b_MD_majority 3 = .ok (.iload_n 2, 1) := by decide +kernel
theorem d_MD_majority_4 : decode b_MD_majority 4 = .ok (.if_icmp .ge 75, 3) := by decide +kernel
theorem d_MD_majority_7 : decode b_MD_majority 7 = .ok (.iconst 0, 1) := by decide +kernel
theorem d_MD_majority_8 : decode b_MD_majority 8 = .ok (.istore 4, 2) := by decide +kernel
theorem d_MD_majority_10 : decode b_MD_majority 10 = .ok (.iconst 0, 1) := by decide +kernel
theorem d_MD_majority_11 : decode b_MD_majority 11 = .ok (.istore 5, 2) := by decide +kernel
theorem d_MD_majority_13 : decode b_MD_majority 13 = .ok (.iload 5, 2) := by decide +kernel
theorem d_MD_majority_15 : decode b_MD_majority 15 = .ok (.iload_n 2, 1) := by decide +kernel
theorem d_MD_majority_16 : decode b_MD_majority 16 = .ok (.if_icmp .ge 40, 3) := by decide +kernel
theorem d_MD_majority_19 : decode b_MD_majority 19 = .ok (.aload_n 0, 1) := by decide +kernel
theorem d_MD_majority_20 : decode b_MD_majority 20 = .ok (.getfield 70, 3) := by decide +kernel
theorem d_MD_majority_23 : decode b_MD_majority 23 = .ok (.iload_n 1, 1) := by decide +kernel
theorem d_MD_majority_24 : decode b_MD_majority 24 = .ok (.iload 5, 2) := by decide +kernel
theorem d_MD_majority_26 : decode b_MD_majority 26 = .ok (.iadd, 1) := by decide +kernel
theorem d_MD_majority_27 : decode b_MD_majority 27 = .ok (.iaload, 1) := by decide +kernel
theorem d_MD_majority_28 : decode b_MD_majority 28 = .ok (.aload_n 0, 1) := by decide +kernel
theorem d_MD_majority_29 : decode b_MD_majority 29 = .ok (.getfield 70, 3) := by decide +kernel
theorem d_MD_majority_32 : decode b_MD_majority 32 = .ok (.iload_n 1, 1) := by decide +kernel
theorem d_MD_majority_33 : decode b_MD_majority 33 = .ok (.iload_n 3, 1) := by decide +kernel
theorem d_MD_majority_34 : decode b_MD_majority 34 = .ok (.iadd, 1) := by decide +kernel
theorem d_MD_majority_35 : decode b_MD_majority 35 = .ok (.iaload, 1) := by decide +kernel
theorem d_MD_majority_36 : decode b_MD_majority 36 = .ok (.if_icmp .ne 10, 3) := by decide +kernel
theorem d_MD_majority_39 : decode b_MD_majority 39 = .ok (.iload 4, 2) := by decide +kernel
theorem d_MD_majority_41 : decode b_MD_majority 41 = .ok (.iconst 1, 1) := by decide +kernel
theorem d_MD_majority_42 : decode b_MD_majority 42 = .ok (.iadd, 1) := by decide +kernel
theorem d_MD_majority_43 : decode b_MD_majority 43 = .ok (.goto 5, 3) := by decide +kernel
theorem d_MD_majority_46 : decode b_MD_majority 46 = .ok (.iload 4, 2) := by decide +kernel
theorem d_MD_majority_48 : decode b_MD_majority 48 = .ok (.istore 4, 2) := by decide +kernel
theorem d_MD_majority_50 : decode b_MD_majority 50 = .ok (.iinc 5 1, 3) := by decide +kernel
theorem d_MD_majority_53 : decode b_MD_majority 53 = .ok (.goto (-40), 3) := by decide +kernel
theorem d_MD_majority_56 : decode b_MD_majority 56 = .ok (.iconst 2, 1) := by decide +kernel
theorem d_MD_majority_57 : decode b_MD_majority 57 = .ok (.iload 4, 2) := by decide +kernel
theorem d_MD_majority_59 : decode b_MD_majority 59 = .ok (.imul, 1) := by decide +kernel
theorem d_MD_majority_60 : decode b_MD_majority 60 = .ok (.iload_n 2, 1) := by decide +kernel
theorem d_MD_majority_61 : decode b_MD_majority 61 = .ok (.if_icmp .le 12, 3) := by decide +kernel
theorem d_MD_majority_64 : decode b_MD_majority 64 = .ok (.aload_n 0, 1) := by decide +kernel
theorem d_MD_majority_65 : decode b_MD_majority 65 = .ok (.getfield 70, 3) := by decide +kernel
theorem d_MD_majority_68 : decode b_MD_majority 68 = .ok (.iload_n 1, 1) := by decide +kernel
theorem d_MD_majority_69 : decode b_MD_majority 69 = .ok (.iload_n 3, 1) := by decide +kernel
theorem d_MD_majority_70 : decode b_MD_majority 70 = .ok (.iadd, 1) := by decide +kernel
theorem d_MD_majority_71 : decode b_MD_majority 71 = .ok (.iaload, 1) := by decide +kernel
theorem d_MD_majority_72 : decode b_MD_majority 72 = .ok (.ireturn, 1) := by decide +kernel
theorem d_MD_majority_73 : decode b_MD_majority 73 = .ok (.iinc 3 1, 3) := by decide +kernel
theorem d_MD_majority_76 : decode b_MD_majority 76 = .ok (.goto (-74), 3) := by decide +kernel
theorem d_MD_majority_79 : decode b_MD_majority 79 = .ok (.iconst 0, 1) := by decide +kernel
theorem d_MD_majority_80 : decode b_MD_majority 80 = .ok (.ireturn, 1) := by decide +kernel
theorem d_MD_tasks_0 : decode b_MD_tasks 0 = .ok (.iconst 0, 1) := by decide +kernel
theorem d_MD_tasks_1 : decode b_MD_tasks 1 = .ok (.istore_n 1, 1) := by decide +kernel
theorem d_MD_tasks_2 : decode b_MD_tasks 2 = .ok (.iload_n 1, 1) := by decide +kernel
theorem d_MD_tasks_3 : decode b_MD_tasks 3 = .ok (.aload_n 0, 1) := by decide +kernel
theorem d_MD_tasks_4 : decode b_MD_tasks 4 = .ok (.getfield 73, 3) := by decide +kernel
theorem d_MD_tasks_7 : decode b_MD_tasks 7 = .ok (.if_icmp .ge 18, 3) := by decide +kernel
theorem d_MD_tasks_10 : decode b_MD_tasks 10 = .ok (.aload_n 0, 1) := by decide +kernel
theorem d_MD_tasks_11 : decode b_MD_tasks 11 = .ok (.getfield 19, 3) := by decide +kernel
theorem d_MD_tasks_14 : decode b_MD_tasks 14 = .ok (.iload_n 1, 1) := by decide +kernel
theorem d_MD_tasks_15 : decode b_MD_tasks 15 = .ok (.iaload, 1) := by decide +kernel
theorem d_MD_tasks_16 : decode b_MD_tasks 16 = .ok (.ifCond .eq 9, 3) := by decide +kernel
theorem d_MD_tasks_19 : decode b_MD_tasks 19 = .ok (.iinc 1 1, 3) := by decide +kernel
theorem d_MD_tasks_22 : decode b_MD_tasks 22 = .ok (.goto (-20), 3) := by decide +kernel
theorem d_MD_tasks_25 : decode b_MD_tasks 25 = .ok (.iload_n 1, 1) := by decide +kernel
theorem d_MD_tasks_26 : decode b_MD_tasks 26 = .ok (.aload_n 0, 1) := by decide +kernel
theorem d_MD_tasks_27 : decode b_MD_tasks 27 = .ok (.getfield 73, 3) := by decide +kernel
theorem d_MD_tasks_30 : decode b_MD_tasks 30 = .ok (.if_icmp .ge 10, 3) := by decide +kernel
theorem d_MD_tasks_33 : decode b_MD_tasks 33 = .ok (.bipush 7, 2) := by decide +kernel
theorem d_MD_tasks_35 : decode b_MD_tasks 35 = .ok (.iload_n 1, 1) := by decide +kernel
theorem d_MD_tasks_36 : decode b_MD_tasks 36 = .ok (.imul, 1) := by decide +kernel
theorem d_MD_tasks_37 : decode b_MD_tasks 37 = .ok (.goto 5, 3) := by decide +kernel
theorem d_MD_tasks_40 : decode b_MD_tasks 40 = .ok (.bipush 49, 2) := by decide +kernel
theorem d_MD_tasks_42 : decode b_MD_tasks 42 = .ok (.istore_n 2, 1) := by decide +kernel
theorem d_MD_tasks_43 : decode b_MD_tasks 43 = .ok (.iconst 0, 1) := by decide +kernel
theorem d_MD_tasks_44 : decode b_MD_tasks 44 = .ok (.istore_n 3, 1) := by decide +kernel
theorem d_MD_tasks_45 : decode b_MD_tasks 45 = .ok (.iload_n 3, 1) := by decide +kernel
theorem d_MD_tasks_46 : decode b_MD_tasks 46 = .ok (.iconst 4, 1) := by decide +kernel
theorem d_MD_tasks_47 : decode b_MD_tasks 47 = .ok (.if_icmp .ge 98, 3) := by decide +kernel
theorem d_MD_tasks_50 : decode b_MD_tasks 50 = .ok (.aload_n 0, 1) := by decide +kernel
theorem d_MD_tasks_51 : decode b_MD_tasks 51 = .ok (.iload_n 3, 1) := by decide +kernel
theorem d_MD_tasks_52 : decode b_MD_tasks 52 = .ok (.invokevirtual 145, 3) := by decide +kernel
theorem d_MD_tasks_55 : decode b_MD_tasks 55 = .ok (.ifCond .eq 84, 3) := by decide +kernel
theorem d_MD_tasks_58 : decode b_MD_tasks 58 = .ok (.iconst 0, 1) := by decide +kernel
theorem d_MD_tasks_59 : decode b_MD_tasks 59 = .ok (.istore 4, 2) := by decide +kernel
theorem d_MD_tasks_61 : decode b_MD_tasks 61 = .ok (.iload 4, 2) := by decide +kernel
theorem d_MD_tasks_63 : decode b_MD_tasks 63 = .ok (.aload_n 0, 1) := by decide +kernel
theorem d_MD_tasks_64 : decode b_MD_tasks 64 = .ok (.getfield 73, 3) := by decide +kernel
theorem d_MD_tasks_67 : decode b_MD_tasks 67 = .ok (.if_icmp .ge 30, 3) := by decide +kernel
theorem d_MD_tasks_70 : decode b_MD_tasks 70 = .ok (.aload_n 0, 1) := by decide +kernel
theorem d_MD_tasks_71 : decode b_MD_tasks 71 = .ok (.getfield 34, 3) := by decide +kernel
theorem d_MD_tasks_74 : decode b_MD_tasks 74 = .ok (.iload 4, 2) := by decide +kernel
theorem d_MD_tasks_76 : decode b_MD_tasks 76 = .ok (.aload_n 0, 1) := by decide +kernel
theorem d_MD_tasks_77 : decode b_MD_tasks 77 = .ok (.iload_n 3, 1) := by decide +kernel
theorem d_MD_tasks_78 : decode b_MD_tasks 78 = .ok (.bipush 7, 2) := by decide +kernel
theorem d_MD_tasks_80 : decode b_MD_tasks 80 = .ok (.iload 4, 2) := by decide +kernel
theorem d_MD_tasks_82 : decode b_MD_tasks 82 = .ok (.imul, 1) := by decide +kernel
theorem d_MD_tasks_83 : decode b_MD_tasks 83 = .ok (.iconst 4, 1) := by decide +kernel
theorem d_MD_tasks_84 : decode b_MD_tasks 84 = .ok (.iload 4, 2) := by decide +kernel
theorem d_MD_tasks_86 : decode b_MD_tasks 86 = .ok (.imul, 1) := by decide +kernel
theorem d_MD_tasks_87 : decode b_MD_tasks 87 = .ok (.invokevirtual 148, 3) := by decide +kernel
theorem d_MD_tasks_90 : decode b_MD_tasks 90 = .ok (.iastore, 1) := by decide +kernel
theorem d_MD_tasks_91 : decode b_MD_tasks 91 = .ok (.iinc 4 1, 3) := by decide +kernel
theorem d_MD_tasks_94 : decode b_MD_tasks 94 = .ok (.goto (-33), 3) := by decide +kernel
theorem d_MD_tasks_97 : decode b_MD_tasks 97 = .ok (.iconst 0, 1) := by decide +kernel
theorem d_MD_tasks_98 : decode b_MD_tasks 98 = .ok (.istore 4, 2) := by decide +kernel
theorem d_MD_tasks_100 : decode b_MD_tasks 100 = .ok (.iload 4, 2) := by decide +kernel
theorem d_MD_tasks_102 : decode b_MD_tasks 102 = .ok (.aload_n 0, 1) := by decide +kernel
theorem d_MD_tasks_103 : decode b_MD_tasks 103 = .ok (.getfield 73, 3) := by decide +kernel
theorem d_MD_tasks_106 : decode b_MD_tasks 106 = .ok (.if_icmp .ge 16, 3) := by decide +kernel
theorem d_MD_tasks_109 : decode b_MD_tasks 109 = .ok (.aload_n 0, 1) := by decide +kernel
theorem d_MD_tasks_110 : decode b_MD_tasks 110 = .ok (.iload 4, 2) := by decide +kernel
theorem d_MD_tasks_112 : decode b_MD_tasks 112 = .ok (.iload_n 3, 1) := by decide +kernel
theorem d_MD_tasks_113 : decode b_MD_tasks 113 = .ok (.invokevirtual 151, 3) := by decide +kernel
theorem d_MD_tasks_116 : decode b_MD_tasks 116 = .ok (.iinc 4 1, 3) := by decide +kernel
theorem d_MD_tasks_119 : decode b_MD_tasks 119 = .ok (.goto (-19), 3) := by decide +kernel
theorem d_MD_tasks_122 : decode b_MD_tasks 122 = .ok (.aload_n 0, 1) := by decide +kernel
theorem d_MD_tasks_123 : decode b_MD_tasks 123 = .ok (.getfield 37, 3) := by decide +kernel
theorem d_MD_tasks_126 : decode b_MD_tasks 126 = .ok (.bipush 28, 2) := by decide +kernel
theorem d_MD_tasks_128 : decode b_MD_tasks 128 = .ok (.iload_n 3, 1) := by decide +kernel
theorem d_MD_tasks_129 : decode b_MD_tasks 129 = .ok (.iadd, 1) := by decide +kernel
theorem d_MD_tasks_130 : decode b_MD_tasks 130 = .ok (.aload_n 0, 1) := by decide +kernel
theorem d_MD_tasks_131 : decode b_MD_tasks 131 = .ok (.iload_n 3, 1) := by decide +kernel
theorem d_MD_tasks_132 : decode b_MD_tasks 132 = .ok (.iload_n 2, 1) := by decide +kernel
theorem d_MD_tasks_133 : decode b_MD_tasks 133 = .ok (.bipush 28, 2) := by decide +kernel
theorem d_MD_tasks_135 : decode b_MD_tasks 135 = .ok (.invokevirtual 148, 3) := by decide +kernel
theorem d_MD_tasks_138 : decode b_MD_tasks 138 = .ok (.iastore, 1) := by decide +kernel
theorem d_MD_tasks_139 : decode b_MD_tasks 139 = .ok (.iinc 3 1, 3) := by decide +kernel
theorem d_MD_tasks_142 : decode b_MD_tasks 142 = .ok (.goto (-97), 3) := by decide +kernel
theorem d_MD_tasks_145 : decode b_MD_tasks 145 = .ok (.return_, 1) := by decide +kernel
theorem d_MD_isDue_0 : decode b_MD_isDue 0 = .ok (.aload_n 0, 1) := by decide +kernel
theorem d_MD_isDue_1 : decode b_MD_isDue 1 = .ok (.getfield 61, 3) := by decide +kernel
theorem d_MD_isDue_4 : decode b_MD_isDue 4 = .ok (.iload_n 1, 1) := by decide +kernel
theorem d_MD_isDue_5 : decode b_MD_isDue 5 = .ok (.iaload, 1) := by decide +kernel
theorem d_MD_isDue_6 : decode b_MD_isDue 6 = .ok (.ifCond .le 27, 3) := by decide +kernel
theorem d_MD_isDue_9 : decode b_MD_isDue 9 = .ok (.aload_n 0, 1) := by decide +kernel
theorem d_MD_isDue_10 : decode b_MD_isDue 10 = .ok (.getfield 94, 3) := by decide +kernel
theorem d_MD_isDue_13 : decode b_MD_isDue 13 = .ok (.aload_n 0, 1) := by decide +kernel
theorem d_MD_isDue_14 : decode b_MD_isDue 14 = .ok (.getfield 61, 3) := by decide +kernel
theorem d_MD_isDue_17 : decode b_MD_isDue 17 = .ok (.iload_n 1, 1) := by decide +kernel
theorem d_MD_isDue_18 : decode b_MD_isDue 18 = .ok (.iaload, 1) := by decide +kernel
theorem d_MD_isDue_19 : decode b_MD_isDue 19 = .ok (.irem, 1) := by decide +kernel
theorem d_MD_isDue_20 : decode b_MD_isDue 20 = .ok (.aload_n 0, 1) := by decide +kernel
theorem d_MD_isDue_21 : decode b_MD_isDue 21 = .ok (.getfield 64, 3) := by decide +kernel
theorem d_MD_isDue_24 : decode b_MD_isDue 24 = .ok (.iload_n 1, 1) := by decide +kernel
theorem d_MD_isDue_25 : decode b_MD_isDue 25 = .ok (.iaload, 1) := by decide +kernel
theorem d_MD_isDue_26 : decode b_MD_isDue 26 = .ok (.if_icmp .ne 7, 3) := by decide +kernel
theorem d_MD_isDue_29 : decode b_MD_isDue 29 = .ok (.iconst 1, 1) := by decide +kernel
theorem d_MD_isDue_30 : decode b_MD_isDue 30 = .ok (.goto 4, 3) := by decide +kernel
theorem d_MD_isDue_33 : decode b_MD_isDue 33 = .ok (.iconst 0, 1) := by decide +kernel
theorem d_MD_isDue_34 : decode b_MD_isDue 34 = .ok (.ireturn, 1) := by decide +kernel
theorem d_MD_play_0 : decode b_MD_play 0 = .ok (.aload_n 0, 1) := by decide +kernel
theorem d_MD_play_1 : decode b_MD_play 1 = .ok (.iconst 0, 1) := by decide +kernel
theorem d_MD_play_2 : decode b_MD_play 2 = .ok (.putfield 129, 3) := by decide +kernel
theorem d_MD_play_5 : decode b_MD_play 5 = .ok (.iconst 0, 1) := by decide +kernel
theorem d_MD_play_6 : decode b_MD_play 6 = .ok (.istore 4, 2) := by decide +kernel
theorem d_MD_play_8 : decode b_MD_play 8 = .ok (.iload 4, 2) := by decide +kernel
theorem d_MD_play_10 : decode b_MD_play 10 = .ok (.aload_n 0, 1) := by decide +kernel
theorem d_MD_play_11 : decode b_MD_play 11 = .ok (.getfield 58, 3) := by decide +kernel
theorem d_MD_play_14 : decode b_MD_play 14 = .ok (.iload_n 1, 1) := by decide +kernel
theorem d_MD_play_15 : decode b_MD_play 15 = .ok (.iaload, 1) := by decide +kernel
theorem d_MD_play_16 : decode b_MD_play 16 = .ok (.if_icmp .ge 291, 3) := by decide +kernel
theorem d_MD_play_19 : decode b_MD_play 19 = .ok (.aload_n 0, 1) := by decide +kernel
theorem d_MD_play_20 : decode b_MD_play 20 = .ok (.getfield 52, 3) := by decide +kernel
theorem d_MD_play_23 : decode b_MD_play 23 = .ok (.bipush 12, 2) := by decide +kernel
theorem d_MD_play_25 : decode b_MD_play 25 = .ok (.iload_n 1, 1) := by decide +kernel
theorem d_MD_play_26 : decode b_MD_play 26 = .ok (.imul, 1) := by decide +kernel
theorem d_MD_play_27 : decode b_MD_play 27 = .ok (.iload 4, 2) := by decide +kernel
theorem d_MD_play_29 : decode b_MD_play 29 = .ok (.iadd, 1) := by decide +kernel
theorem d_MD_play_30 : decode b_MD_play 30 = .ok (.iaload, 1) := by decide +kernel
theorem d_MD_play_31 : decode b_MD_play 31 = .ok (.istore 5, 2) := by decide +kernel
theorem d_MD_play_33 : decode b_MD_play 33 = .ok (.aload_n 0, 1) := by decide +kernel
theorem d_MD_play_34 : decode b_MD_play 34 = .ok (.getfield 55, 3) := by decide +kernel
theorem d_MD_play_37 : decode b_MD_play 37 = .ok (.bipush 12, 2) := by decide +kernel
theorem d_MD_play_39 : decode b_MD_play 39 = .ok (.iload_n 1, 1) := by decide +kernel
theorem d_MD_play_40 : decode b_MD_play 40 = .ok (.imul, 1) := by decide +kernel
theorem d_MD_play_41 : decode b_MD_play 41 = .ok (.iload 4, 2) := by decide +kernel
theorem d_MD_play_43 : decode b_MD_play 43 = .ok (.iadd, 1) := by decide +kernel
theorem d_MD_play_44 : decode b_MD_play 44 = .ok (.iaload, 1) := by decide +kernel
theorem d_MD_play_45 : decode b_MD_play 45 = .ok (.istore 6, 2) := by decide +kernel
theorem d_MD_play_47 : decode b_MD_play 47 = .ok (.iinc 4 1, 3) := by decide +kernel
theorem d_MD_play_50 : decode b_MD_play 50 = .ok (.iload 5, 2) := by decide +kernel
theorem d_MD_play_52 : decode b_MD_play 52 = .ok (.iconst 3, 1) := by decide +kernel
theorem d_MD_play_53 : decode b_MD_play 53 = .ok (.if_icmp .ge 7, 3) := by decide +kernel
theorem d_MD_play_56 : decode b_MD_play 56 = .ok (.iconst 0, 1) := by decide +kernel
theorem d_MD_play_57 : decode b_MD_play 57 = .ok (.goto 15, 3) := by decide +kernel
theorem d_MD_play_60 : decode b_MD_play 60 = .ok (.iload 5, 2) := by decide +kernel
theorem d_MD_play_62 : decode b_MD_play 62 = .ok (.bipush 8, 2) := by decide +kernel
theorem d_MD_play_64 : decode b_MD_play 64 = .ok (.if_icmp .ge 7, 3) := by decide +kernel
theorem d_MD_play_67 : decode b_MD_play 67 = .ok (.iconst 2, 1) := by decide +kernel
theorem d_MD_play_68 : decode b_MD_play 68 = .ok (.goto 4, 3) := by decide +kernel
theorem d_MD_play_71 : decode b_MD_play 71 = .ok (.iconst 1, 1) := by decide +kernel
theorem d_MD_play_72 : decode b_MD_play 72 = .ok (.istore 7, 2) := by decide +kernel
theorem d_MD_play_74 : decode b_MD_play 74 = .ok (.aload_n 0, 1) := by decide +kernel
theorem d_MD_play_75 : decode b_MD_play 75 = .ok (.getfield 129, 3) := by decide +kernel
theorem d_MD_play_78 : decode b_MD_play 78 = .ok (.iload 7, 2) := by decide +kernel
theorem d_MD_play_80 : decode b_MD_play 80 = .ok (.if_icmp .ge 6, 3) := by decide +kernel
theorem d_MD_play_83 : decode b_MD_play 83 = .ok (.ldc 132, 2) := by decide +kernel
theorem d_MD_play_85 : decode b_MD_play 85 = .ok (.ireturn, 1) := by decide +kernel
theorem d_MD_play_86 : decode b_MD_play 86 = .ok (.aload_n 0, 1) := by decide +kernel
theorem d_MD_play_87 : decode b_MD_play 87 = .ok (.getfield 129, 3) := by decide +kernel
theorem d_MD_play_90 : decode b_MD_play 90 = .ok (.ifCond .le 17, 3) := by decide +kernel
theorem d_MD_play_93 : decode b_MD_play 93 = .ok (.aload_n 0, 1) := by decide +kernel
theorem d_MD_play_94 : decode b_MD_play 94 = .ok (.getfield 67, 3) := by decide +kernel
theorem d_MD_play_97 : decode b_MD_play 97 = .ok (.aload_n 0, 1) := by decide +kernel
theorem d_MD_play_98 : decode b_MD_play 98 = .ok (.getfield 129, 3) := by decide +kernel
theorem d_MD_play_101 : decode b_MD_play 101 = .ok (.iconst 1, 1) := by decide +kernel
theorem d_MD_play_102 : decode b_MD_play 102 = .ok (.isub, 1) := by decide +kernel
theorem d_MD_play_103 : decode b_MD_play 103 = .ok (.iaload, 1) := by decide +kernel
theorem d_MD_play_104 : decode b_MD_play 104 = .ok (.goto 4, 3) := by decide +kernel
theorem d_MD_play_107 : decode b_MD_play 107 = .ok (.iconst 0, 1) := by decide +kernel
theorem d_MD_play_108 : decode b_MD_play 108 = .ok (.istore 8, 2) := by decide +kernel
theorem d_MD_play_110 : decode b_MD_play 110 = .ok (.aload_n 0, 1) := by decide +kernel
theorem d_MD_play_111 : decode b_MD_play 111 = .ok (.getfield 129, 3) := by decide +kernel
theorem d_MD_play_114 : decode b_MD_play 114 = .ok (.iconst 1, 1) := by decide +kernel
theorem d_MD_play_115 : decode b_MD_play 115 = .ok (.if_icmp .le 17, 3) := by decide +kernel
theorem d_MD_play_118 : decode b_MD_play 118 = .ok (.aload_n 0, 1) := by decide +kernel
theorem d_MD_play_119 : decode b_MD_play 119 = .ok (.getfield 67, 3) := by decide +kernel
theorem d_MD_play_122 : decode b_MD_play 122 = .ok (.aload_n 0, 1) := by decide +kernel
theorem d_MD_play_123 : decode b_MD_play 123 = .ok (.getfield 129, 3) := by decide +kernel
theorem d_MD_play_126 : decode b_MD_play 126 = .ok (.iconst 2, 1) := by decide +kernel
theorem d_MD_play_127 : decode b_MD_play 127 = .ok (.isub, 1) := by decide +kernel
theorem d_MD_play_128 : decode b_MD_play 128 = .ok (.iaload, 1) := by decide +kernel
theorem d_MD_play_129 : decode b_MD_play 129 = .ok (.goto 4, 3) := by decide +kernel
theorem d_MD_play_132 : decode b_MD_play 132 = .ok (.iconst 0, 1) := by decide +kernel
theorem d_MD_play_133 : decode b_MD_play 133 = .ok (.istore 9, 2) := by decide +kernel
theorem d_MD_play_135 : decode b_MD_play 135 = .ok (.iload 5, 2) := by decide +kernel
theorem d_MD_play_137 : decode b_MD_play 137 = .ok (.bipush 6, 2) := by decide +kernel
theorem d_MD_play_139 : decode b_MD_play 139 = .ok (.if_icmp .ne 11, 3) := by decide +kernel
theorem d_MD_play_142 : decode b_MD_play 142 = .ok (.iload 8, 2) := by decide +kernel
theorem d_MD_play_144 : decode b_MD_play 144 = .ok (.ifCond .ne 6, 3) := by decide +kernel
theorem d_MD_play_147 : decode b_MD_play 147 = .ok (.ldc 133, 2) := by decide +kernel
theorem d_MD_play_149 : decode b_MD_play 149 = .ok (.ireturn, 1) := by decide +kernel
theorem d_MD_play_150 : decode b_MD_play 150 = .ok (.iload 5, 2) := by decide +kernel
theorem d_MD_play_152 : decode b_MD_play 152 = .ok (.iconst 3, 1) := by decide +kernel
theorem d_MD_play_153 : decode b_MD_play 153 = .ok (.if_icmp .lt 10, 3) := by decide +kernel
theorem d_MD_play_156 : decode b_MD_play 156 = .ok (.iload 5, 2) := by decide +kernel
theorem d_MD_play_158 : decode b_MD_play 158 = .ok (.bipush 9, 2) := by decide +kernel
theorem d_MD_play_160 : decode b_MD_play 160 = .ok (.if_icmp .ne 15, 3) := by decide +kernel
theorem d_MD_play_163 : decode b_MD_play 163 = .ok (.aload_n 0, 1) := by decide +kernel
theorem d_MD_play_164 : decode b_MD_play 164 = .ok (.getfield 129, 3) := by decide +kernel
theorem d_MD_play_167 : decode b_MD_play 167 = .ok (.bipush 6, 2) := by decide +kernel
theorem d_MD_play_169 : decode b_MD_play 169 = .ok (.if_icmp .ne 6, 3) := by decide +kernel
theorem d_MD_play_172 : decode b_MD_play 172 = .ok (.ldc 134, 2) := by decide +kernel
theorem d_MD_play_174 : decode b_MD_play 174 = .ok (.ireturn, 1) := by decide +kernel
theorem d_MD_play_175 : decode b_MD_play 175 = .ok (.iload 5, 2) := by decide +kernel
theorem d_MD_play_177 : decode b_MD_play 177 = .ok (.bipush 8, 2) := by decide +kernel
theorem d_MD_play_179 : decode b_MD_play 179 = .ok (.if_icmp .ne 33, 3) := by decide +kernel
theorem d_MD_play_182 : decode b_MD_play 182 = .ok (.aload_n 0, 1) := by decide +kernel
theorem d_MD_play_183 : decode b_MD_play 183 = .ok (.dup, 1) := by decide +kernel
theorem d_MD_play_184 : decode b_MD_play 184 = .ok (.getfield 129, 3) := by decide +kernel
theorem d_MD_play_187 : decode b_MD_play 187 = .ok (.iconst 1, 1) := by decide +kernel
theorem d_MD_play_188 : decode b_MD_play 188 = .ok (.isub, 1) := by decide +kernel
theorem d_MD_play_189 : decode b_MD_play 189 = .ok (.putfield 129, 3) := by decide +kernel
theorem d_MD_play_192 : decode b_MD_play 192 = .ok (.iload 8, 2) := by decide +kernel
theorem d_MD_play_194 : decode b_MD_play 194 = .ok (.ifCond .ne 11, 3) := by decide +kernel
theorem d_MD_play_197 : decode b_MD_play 197 = .ok (.iload 4, 2) := by decide +kernel
theorem d_MD_play_199 : decode b_MD_play 199 = .ok (.iload 6, 2) := by decide +kernel
theorem d_MD_play_201 : decode b_MD_play 201 = .ok (.iadd, 1) := by decide +kernel
theorem d_MD_play_202 : decode b_MD_play 202 = .ok (.goto 5, 3) := by decide +kernel
theorem d_MD_play_205 : decode b_MD_play 205 = .ok (.iload 4, 2) := by decide +kernel
theorem d_MD_play_207 : decode b_MD_play 207 = .ok (.istore 4, 2) := by decide +kernel
theorem d_MD_play_209 : decode b_MD_play 209 = .ok (.goto 95, 3) := by decide +kernel
theorem d_MD_play_212 : decode b_MD_play 212 = .ok (.iload 7, 2) := by decide +kernel
theorem d_MD_play_214 : decode b_MD_play 214 = .ok (.iconst 2, 1) := by decide +kernel
theorem d_MD_play_215 : decode b_MD_play 215 = .ok (.if_icmp .ne 33, 3) := by decide +kernel
theorem d_MD_play_218 : decode b_MD_play 218 = .ok (.iload 5, 2) := by decide +kernel
theorem d_MD_play_220 : decode b_MD_play 220 = .ok (.iload 9, 2) := by decide +kernel
theorem d_MD_play_222 : decode b_MD_play 222 = .ok (.iload 8, 2) := by decide +kernel
theorem d_MD_play_224 : decode b_MD_play 224 = .ok (.invokestatic 135, 3) := by decide +kernel
theorem d_MD_play_227 : decode b_MD_play 227 = .ok (.istore 10, 2) := by decide +kernel
theorem d_MD_play_229 : decode b_MD_play 229 = .ok (.aload_n 0, 1) := by decide +kernel
theorem d_MD_play_230 : decode b_MD_play 230 = .ok (.dup, 1) := by decide +kernel
theorem d_MD_play_231 : decode b_MD_play 231 = .ok (.getfield 129, 3) := by decide +kernel
theorem d_MD_play_234 : decode b_MD_play 234 = .ok (.iconst 2, 1) := by decide +kernel
theorem d_MD_play_235 : decode b_MD_play 235 = .ok (.isub, 1) := by decide +kernel
theorem d_MD_play_236 : decode b_MD_play 236 = .ok (.putfield 129, 3) := by decide +kernel
theorem d_MD_play_239 : decode b_MD_play 239 = .ok (.aload_n 0, 1) := by decide +kernel
theorem d_MD_play_240 : decode b_MD_play 240 = .ok (.iload 10, 2) := by decide +kernel
theorem d_MD_play_242 : decode b_MD_play 242 = .ok (.invokevirtual 138, 3) := by decide +kernel
theorem d_MD_play_245 : decode b_MD_play 245 = .ok (.goto 59, 3) := by decide +kernel
theorem d_MD_play_248 : decode b_MD_play 248 = .ok (.iload 5, 2) := by decide +kernel
theorem d_MD_play_250 : decode b_MD_play 250 = .ok (.ifCond .ne 8, 3) := by decide +kernel
theorem d_MD_play_253 : decode b_MD_play 253 = .ok (.iload 6, 2) := by decide +kernel
theorem d_MD_play_255 : decode b_MD_play 255 = .ok (.goto 41, 3) := by decide +kernel
theorem d_MD_play_258 : decode b_MD_play 258 = .ok (.iload 5, 2) := by decide +kernel
theorem d_MD_play_260 : decode b_MD_play 260 = .ok (.iconst 1, 1) := by decide +kernel
theorem d_MD_play_261 : decode b_MD_play 261 = .ok (.if_icmp .ne 15, 3) := by decide +kernel
theorem d_MD_play_264 : decode b_MD_play 264 = .ok (.aload_n 0, 1) := by decide +kernel
theorem d_MD_play_265 : decode b_MD_play 265 = .ok (.getfield 40, 3) := by decide +kernel
theorem d_MD_play_268 : decode b_MD_play 268 = .ok (.iload_n 2, 1) := by decide +kernel
theorem d_MD_play_269 : decode b_MD_play 269 = .ok (.iload 6, 2) := by decide +kernel
theorem d_MD_play_271 : decode b_MD_play 271 = .ok (.iadd, 1) := by decide +kernel
theorem d_MD_play_272 : decode b_MD_play 272 = .ok (.iaload, 1) := by decide +kernel
theorem d_MD_play_273 : decode b_MD_play 273 = .ok (.goto 23, 3) := by decide +kernel
theorem d_MD_play_276 : decode b_MD_play 276 = .ok (.iload 5, 2) := by decide +kernel
theorem d_MD_play_278 : decode b_MD_play 278 = .ok (.iconst 2, 1) := by decide +kernel
theorem d_MD_play_279 : decode b_MD_play 279 = .ok (.if_icmp .ne 15, 3) := by decide +kernel
theorem d_MD_play_282 : decode b_MD_play 282 = .ok (.aload_n 0, 1) := by decide +kernel
theorem d_MD_play_283 : decode b_MD_play 283 = .ok (.getfield 37, 3) := by decide +kernel
theorem d_MD_play_286 : decode b_MD_play 286 = .ok (.iload_n 3, 1) := by decide +kernel
theorem d_MD_play_287 : decode b_MD_play 287 = .ok (.iload 6, 2) := by decide +kernel
theorem d_MD_play_289 : decode b_MD_play 289 = .ok (.iadd, 1) := by decide +kernel
theorem d_MD_play_290 : decode b_MD_play 290 = .ok (.iaload, 1) := by decide +kernel
theorem d_MD_play_291 : decode b_MD_play 291 = .ok (.goto 5, 3) := by decide +kernel
theorem d_MD_play_294 : decode b_MD_play 294 = .ok (.iload 8, 2) := by decide +kernel
theorem d_MD_play_296 : decode b_MD_play 296 = .ok (.istore 10, 2) := by decide +kernel
theorem d_MD_play_298 : decode b_MD_play 298 = .ok (.aload_n 0, 1) := by decide +kernel
theorem d_MD_play_299 : decode b_MD_play 299 = .ok (.iload 10, 2) := by decide +kernel
theorem d_MD_play_301 : decode b_MD_play 301 = .ok (.invokevirtual 138, 3) := by decide +kernel
theorem d_MD_play_304 : decode b_MD_play 304 = .ok (.goto (-296), 3) := by decide +kernel
theorem d_MD_play_307 : decode b_MD_play 307 = .ok (.aload_n 0, 1) := by decide +kernel
theorem d_MD_play_308 : decode b_MD_play 308 = .ok (.getfield 129, 3) := by decide +kernel
theorem d_MD_play_311 : decode b_MD_play 311 = .ok (.ifCond .le 17, 3) := by decide +kernel
theorem d_MD_play_314 : decode b_MD_play 314 = .ok (.aload_n 0, 1) := by decide +kernel
theorem d_MD_play_315 : decode b_MD_play 315 = .ok (.getfield 67, 3) := by decide +kernel
theorem d_MD_play_318 : decode b_MD_play 318 = .ok (.aload_n 0, 1) := by decide +kernel
theorem d_MD_play_319 : decode b_MD_play 319 = .ok (.getfield 129, 3) := by decide +kernel
theorem d_MD_play_322 : decode b_MD_play 322 = .ok (.iconst 1, 1) := by decide +kernel
theorem d_MD_play_323 : decode b_MD_play 323 = .ok (.isub, 1) := by decide +kernel
theorem d_MD_play_324 : decode b_MD_play 324 = .ok (.iaload, 1) := by decide +kernel
theorem d_MD_play_325 : decode b_MD_play 325 = .ok (.goto 5, 3) := by decide +kernel
theorem d_MD_play_328 : decode b_MD_play 328 = .ok (.ldc 132, 2) := by decide +kernel
theorem d_MD_play_330 : decode b_MD_play 330 = .ok (.ireturn, 1) := by decide +kernel
theorem d_MD_two_0 : decode b_MD_two 0 = .ok (.iload_n 0, 1) := by decide +kernel
theorem d_MD_two_1 : decode b_MD_two 1 = .ok (.tableswitch 49 3 6 #[31, 35, 39, 43], 31) := by decide +kernel
theorem d_MD_two_32 : decode b_MD_two 32 = .ok (.iload_n 1, 1) := by decide +kernel
theorem d_MD_two_33 : decode b_MD_two 33 = .ok (.iload_n 2, 1) := by decide +kernel
theorem d_MD_two_34 : decode b_MD_two 34 = .ok (.iadd, 1) := by decide +kernel
theorem d_MD_two_35 : decode b_MD_two 35 = .ok (.ireturn, 1) := by decide +kernel
theorem d_MD_two_36 : decode b_MD_two 36 = .ok (.iload_n 1, 1) := by decide +kernel
theorem d_MD_two_37 : decode b_MD_two 37 = .ok (.iload_n 2, 1) := by decide +kernel
theorem d_MD_two_38 : decode b_MD_two 38 = .ok (.isub, 1) := by decide +kernel
theorem d_MD_two_39 : decode b_MD_two 39 = .ok (.ireturn, 1) := by decide +kernel
theorem d_MD_two_40 : decode b_MD_two 40 = .ok (.iload_n 1, 1) := by decide +kernel
theorem d_MD_two_41 : decode b_MD_two 41 = .ok (.iload_n 2, 1) := by decide +kernel
theorem d_MD_two_42 : decode b_MD_two 42 = .ok (.imul, 1) := by decide +kernel
theorem d_MD_two_43 : decode b_MD_two 43 = .ok (.ireturn, 1) := by decide +kernel
theorem d_MD_two_44 : decode b_MD_two 44 = .ok (.iload_n 1, 1) := by decide +kernel
theorem d_MD_two_45 : decode b_MD_two 45 = .ok (.iload_n 2, 1) := by decide +kernel
theorem d_MD_two_46 : decode b_MD_two 46 = .ok (.invokestatic 126, 3) := by decide +kernel
theorem d_MD_two_49 : decode b_MD_two 49 = .ok (.ireturn, 1) := by decide +kernel
theorem d_MD_two_50 : decode b_MD_two 50 = .ok (.iload_n 1, 1) := by decide +kernel
theorem d_MD_two_51 : decode b_MD_two 51 = .ok (.iload_n 2, 1) := by decide +kernel
theorem d_MD_two_52 : decode b_MD_two 52 = .ok (.if_icmp .ge 7, 3) := by decide +kernel
theorem d_MD_two_55 : decode b_MD_two 55 = .ok (.iconst 1, 1) := by decide +kernel
theorem d_MD_two_56 : decode b_MD_two 56 = .ok (.goto 4, 3) := by decide +kernel
theorem d_MD_two_59 : decode b_MD_two 59 = .ok (.iconst 0, 1) := by decide +kernel
theorem d_MD_two_60 : decode b_MD_two 60 = .ok (.ireturn, 1) := by decide +kernel
theorem d_MD_down_0 : decode b_MD_down 0 = .ok (.iload_n 0, 1) := by decide +kernel
theorem d_MD_down_1 : decode b_MD_down 1 = .ok (.iload_n 1, 1) := by decide +kernel
theorem d_MD_down_2 : decode b_MD_down 2 = .ok (.idiv, 1) := by decide +kernel
theorem d_MD_down_3 : decode b_MD_down 3 = .ok (.istore_n 2, 1) := by decide +kernel
theorem d_MD_down_4 : decode b_MD_down 4 = .ok (.iload_n 0, 1) := by decide +kernel
theorem d_MD_down_5 : decode b_MD_down 5 = .ok (.iload_n 1, 1) := by decide +kernel
theorem d_MD_down_6 : decode b_MD_down 6 = .ok (.irem, 1) := by decide +kernel
theorem d_MD_down_7 : decode b_MD_down 7 = .ok (.ifCond .eq 30, 3) := by decide +kernel
theorem d_MD_down_10 : decode b_MD_down 10 = .ok (.iload_n 0, 1) := by decide +kernel
theorem d_MD_down_11 : decode b_MD_down 11 = .ok (.ifCond .ge 7, 3) := by decide +kernel
theorem d_MD_down_14 : decode b_MD_down 14 = .ok (.iconst 1, 1) := by decide +kernel
theorem d_MD_down_15 : decode b_MD_down 15 = .ok (.goto 4, 3) := by decide +kernel
theorem d_MD_down_18 : decode b_MD_down 18 = .ok (.iconst 0, 1) := by decide +kernel
theorem d_MD_down_19 : decode b_MD_down 19 = .ok (.iload_n 1, 1) := by decide +kernel
theorem d_MD_down_20 : decode b_MD_down 20 = .ok (.ifCond .ge 7, 3) := by decide +kernel
theorem d_MD_down_23 : decode b_MD_down 23 = .ok (.iconst 1, 1) := by decide +kernel
theorem d_MD_down_24 : decode b_MD_down 24 = .ok (.goto 4, 3) := by decide +kernel
theorem d_MD_down_27 : decode b_MD_down 27 = .ok (.iconst 0, 1) := by decide +kernel
theorem d_MD_down_28 : decode b_MD_down 28 = .ok (.if_icmp .eq 9, 3) := by decide +kernel
theorem d_MD_down_31 : decode b_MD_down 31 = .ok (.iload_n 2, 1) := by decide +kernel
theorem d_MD_down_32 : decode b_MD_down 32 = .ok (.iconst 1, 1) := by decide +kernel
theorem d_MD_down_33 : decode b_MD_down 33 = .ok (.isub, 1) := by decide +kernel
theorem d_MD_down_34 : decode b_MD_down 34 = .ok (.goto 4, 3) := by decide +kernel
theorem d_MD_down_37 : decode b_MD_down 37 = .ok (.iload_n 2, 1) := by decide +kernel
theorem d_MD_down_38 : decode b_MD_down 38 = .ok (.ireturn, 1) := by decide +kernel
theorem d_MD_push_0 : decode b_MD_push 0 = .ok (.aload_n 0, 1) := by decide +kernel
theorem d_MD_push_1 : decode b_MD_push 1 = .ok (.getfield 67, 3) := by decide +kernel
theorem d_MD_push_4 : decode b_MD_push 4 = .ok (.aload_n 0, 1) := by decide +kernel
theorem d_MD_push_5 : decode b_MD_push 5 = .ok (.getfield 129, 3) := by decide +kernel
theorem d_MD_push_8 : decode b_MD_push 8 = .ok (.iload_n 1, 1) := by decide +kernel
theorem d_MD_push_9 : decode b_MD_push 9 = .ok (.iastore, 1) := by decide +kernel
theorem d_MD_push_10 : decode b_MD_push 10 = .ok (.aload_n 0, 1) := by decide +kernel
theorem d_MD_push_11 : decode b_MD_push 11 = .ok (.dup, 1) := by decide +kernel
theorem d_MD_push_12 : decode b_MD_push 12 = .ok (.getfield 129, 3) := by decide +kernel
theorem d_MD_push_15 : decode b_MD_push 15 = .ok (.iconst 1, 1) := by decide +kernel
theorem d_MD_push_16 : decode b_MD_push 16 = .ok (.iadd, 1) := by decide +kernel
theorem d_MD_push_17 : decode b_MD_push 17 = .ok (.putfield 129, 3) := by decide +kernel
theorem d_MD_push_20 : decode b_MD_push 20 = .ok (.return_, 1) := by decide +kernel
theorem d_MD_vote_0 : decode b_MD_vote 0 = .ok (.iconst 0, 1) := by decide +kernel
theorem d_MD_vote_1 : decode b_MD_vote 1 = .ok (.istore_n 3, 1) := by decide +kernel
theorem d_MD_vote_2 : decode b_MD_vote 2 = .ok (.iconst 0, 1) := by decide +kernel
theorem d_MD_vote_3 : decode b_MD_vote 3 = .ok (.istore 4, 2) := by decide +kernel
theorem d_MD_vote_5 : decode b_MD_vote 5 = .ok (.iload 4, 2) := by decide +kernel
theorem d_MD_vote_7 : decode b_MD_vote 7 = .ok (.aload_n 0, 1) := by decide +kernel
theorem d_MD_vote_8 : decode b_MD_vote 8 = .ok (.getfield 73, 3) := by decide +kernel
theorem d_MD_vote_11 : decode b_MD_vote 11 = .ok (.if_icmp .ge 63, 3) := by decide +kernel
theorem d_MD_vote_14 : decode b_MD_vote 14 = .ok (.iload 4, 2) := by decide +kernel
theorem d_MD_vote_16 : decode b_MD_vote 16 = .ok (.iload_n 1, 1) := by decide +kernel
theorem d_MD_vote_17 : decode b_MD_vote 17 = .ok (.if_icmp .eq 13, 3) := by decide +kernel
theorem d_MD_vote_20 : decode b_MD_vote 20 = .ok (.aload_n 0, 1) := by decide +kernel
theorem d_MD_vote_21 : decode b_MD_vote 21 = .ok (.iload 4, 2) := by decide +kernel
theorem d_MD_vote_23 : decode b_MD_vote 23 = .ok (.iload_n 1, 1) := by decide +kernel
theorem d_MD_vote_24 : decode b_MD_vote 24 = .ok (.invokevirtual 97, 3) := by decide +kernel
theorem d_MD_vote_27 : decode b_MD_vote 27 = .ok (.ifCond .eq 41, 3) := by decide +kernel
theorem d_MD_vote_30 : decode b_MD_vote 30 = .ok (.aload_n 0, 1) := by decide +kernel
theorem d_MD_vote_31 : decode b_MD_vote 31 = .ok (.getfield 70, 3) := by decide +kernel
theorem d_MD_vote_34 : decode b_MD_vote 34 = .ok (.iload_n 3, 1) := by decide +kernel
theorem d_MD_vote_35 : decode b_MD_vote 35 = .ok (.iload 4, 2) := by decide +kernel
theorem d_MD_vote_37 : decode b_MD_vote 37 = .ok (.iload_n 1, 1) := by decide +kernel
theorem d_MD_vote_38 : decode b_MD_vote 38 = .ok (.if_icmp .ne 12, 3) := by decide +kernel
theorem d_MD_vote_41 : decode b_MD_vote 41 = .ok (.aload_n 0, 1) := by decide +kernel
theorem d_MD_vote_42 : decode b_MD_vote 42 = .ok (.getfield 34, 3) := by decide +kernel
theorem d_MD_vote_45 : decode b_MD_vote 45 = .ok (.iload_n 1, 1) := by decide +kernel
theorem d_MD_vote_46 : decode b_MD_vote 46 = .ok (.iaload, 1) := by decide +kernel
theorem d_MD_vote_47 : decode b_MD_vote 47 = .ok (.goto 17, 3) := by decide +kernel
theorem d_MD_vote_50 : decode b_MD_vote 50 = .ok (.aload_n 0, 1) := by decide +kernel
theorem d_MD_vote_51 : decode b_MD_vote 51 = .ok (.iload 4, 2) := by decide +kernel
theorem d_MD_vote_53 : decode b_MD_vote 53 = .ok (.iload_n 1, 1) := by decide +kernel
theorem d_MD_vote_54 : decode b_MD_vote 54 = .ok (.aload_n 0, 1) := by decide +kernel
theorem d_MD_vote_55 : decode b_MD_vote 55 = .ok (.getfield 34, 3) := by decide +kernel
theorem d_MD_vote_58 : decode b_MD_vote 58 = .ok (.iload 4, 2) := by decide +kernel
theorem d_MD_vote_60 : decode b_MD_vote 60 = .ok (.iaload, 1) := by decide +kernel
theorem d_MD_vote_61 : decode b_MD_vote 61 = .ok (.invokevirtual 100, 3) := by decide +kernel
theorem d_MD_vote_64 : decode b_MD_vote 64 = .ok (.iastore, 1) := by decide +kernel
theorem d_MD_vote_65 : decode b_MD_vote 65 = .ok (.iinc 3 1, 3) := by decide +kernel
theorem d_MD_vote_68 : decode b_MD_vote 68 = .ok (.iinc 4 1, 3) := by decide +kernel
theorem d_MD_vote_71 : decode b_MD_vote 71 = .ok (.goto (-66), 3) := by decide +kernel
theorem d_MD_vote_74 : decode b_MD_vote 74 = .ok (.aload_n 0, 1) := by decide +kernel
theorem d_MD_vote_75 : decode b_MD_vote 75 = .ok (.iload_n 1, 1) := by decide +kernel
theorem d_MD_vote_76 : decode b_MD_vote 76 = .ok (.invokevirtual 142, 3) := by decide +kernel
theorem d_MD_vote_79 : decode b_MD_vote 79 = .ok (.istore 4, 2) := by decide +kernel
theorem d_MD_vote_81 : decode b_MD_vote 81 = .ok (.iconst 0, 1) := by decide +kernel
theorem d_MD_vote_82 : decode b_MD_vote 82 = .ok (.istore 5, 2) := by decide +kernel
theorem d_MD_vote_84 : decode b_MD_vote 84 = .ok (.iconst 0, 1) := by decide +kernel
theorem d_MD_vote_85 : decode b_MD_vote 85 = .ok (.istore 6, 2) := by decide +kernel
theorem d_MD_vote_87 : decode b_MD_vote 87 = .ok (.iconst 0, 1) := by decide +kernel
theorem d_MD_vote_88 : decode b_MD_vote 88 = .ok (.istore 7, 2) := by decide +kernel
theorem d_MD_vote_90 : decode b_MD_vote 90 = .ok (.iload 7, 2) := by decide +kernel
theorem d_MD_vote_92 : decode b_MD_vote 92 = .ok (.iload_n 3, 1) := by decide +kernel
theorem d_MD_vote_93 : decode b_MD_vote 93 = .ok (.if_icmp .ge 76, 3) := by decide +kernel
theorem d_MD_vote_96 : decode b_MD_vote 96 = .ok (.iconst 0, 1) := by decide +kernel
theorem d_MD_vote_97 : decode b_MD_vote 97 = .ok (.istore 8, 2) := by decide +kernel
theorem d_MD_vote_99 : decode b_MD_vote 99 = .ok (.iconst 0, 1) := by decide +kernel
theorem d_MD_vote_100 : decode b_MD_vote 100 = .ok (.istore 9, 2) := by decide +kernel
theorem d_MD_vote_102 : decode b_MD_vote 102 = .ok (.iload 9, 2) := by decide +kernel
theorem d_MD_vote_104 : decode b_MD_vote 104 = .ok (.iload_n 3, 1) := by decide +kernel
theorem d_MD_vote_105 : decode b_MD_vote 105 = .ok (.if_icmp .ge 37, 3) := by decide +kernel
theorem d_MD_vote_108 : decode b_MD_vote 108 = .ok (.aload_n 0, 1) := by decide +kernel
theorem d_MD_vote_109 : decode b_MD_vote 109 = .ok (.getfield 70, 3) := by decide +kernel
theorem d_MD_vote_112 : decode b_MD_vote 112 = .ok (.iload 9, 2) := by decide +kernel
theorem d_MD_vote_114 : decode b_MD_vote 114 = .ok (.iaload, 1) := by decide +kernel
theorem d_MD_vote_115 : decode b_MD_vote 115 = .ok (.aload_n 0, 1) := by decide +kernel
theorem d_MD_vote_116 : decode b_MD_vote 116 = .ok (.getfield 70, 3) := by decide +kernel
theorem d_MD_vote_119 : decode b_MD_vote 119 = .ok (.iload 7, 2) := by decide +kernel
theorem d_MD_vote_121 : decode b_MD_vote 121 = .ok (.iaload, 1) := by decide +kernel
theorem d_MD_vote_122 : decode b_MD_vote 122 = .ok (.if_icmp .ne 10, 3) := by decide +kernel
theorem d_MD_vote_125 : decode b_MD_vote 125 = .ok (.iload 8, 2) := by decide +kernel
theorem d_MD_vote_127 : decode b_MD_vote 127 = .ok (.iconst 1, 1) := by decide +kernel
theorem d_MD_vote_128 : decode b_MD_vote 128 = .ok (.iadd, 1) := by decide +kernel
theorem d_MD_vote_129 : decode b_MD_vote 129 = .ok (.goto 5, 3) := by decide +kernel
theorem d_MD_vote_132 : decode b_MD_vote 132 = .ok (.iload 8, 2) := by decide +kernel
theorem d_MD_vote_134 : decode b_MD_vote 134 = .ok (.istore 8, 2) := by decide +kernel
theorem d_MD_vote_136 : decode b_MD_vote 136 = .ok (.iinc 9 1, 3) := by decide +kernel
theorem d_MD_vote_139 : decode b_MD_vote 139 = .ok (.goto (-37), 3) := by decide +kernel
theorem d_MD_vote_142 : decode b_MD_vote 142 = .ok (.iconst 2, 1) := by decide +kernel
theorem d_MD_vote_143 : decode b_MD_vote 143 = .ok (.iload 8, 2) := by decide +kernel
theorem d_MD_vote_145 : decode b_MD_vote 145 = .ok (.imul, 1) := by decide +kernel
theorem d_MD_vote_146 : decode b_MD_vote 146 = .ok (.iload 4, 2) := by decide +kernel
theorem d_MD_vote_148 : decode b_MD_vote 148 = .ok (.if_icmp .le 15, 3) := by decide +kernel
theorem d_MD_vote_151 : decode b_MD_vote 151 = .ok (.iconst 1, 1) := by decide +kernel
theorem d_MD_vote_152 : decode b_MD_vote 152 = .ok (.istore 5, 2) := by decide +kernel
theorem d_MD_vote_154 : decode b_MD_vote 154 = .ok (.aload_n 0, 1) := by decide +kernel
theorem d_MD_vote_155 : decode b_MD_vote 155 = .ok (.getfield 70, 3) := by decide +kernel
theorem d_MD_vote_158 : decode b_MD_vote 158 = .ok (.iload 7, 2) := by decide +kernel
theorem d_MD_vote_160 : decode b_MD_vote 160 = .ok (.iaload, 1) := by decide +kernel
theorem d_MD_vote_161 : decode b_MD_vote 161 = .ok (.istore 6, 2) := by decide +kernel
theorem d_MD_vote_163 : decode b_MD_vote 163 = .ok (.iinc 7 1, 3) := by decide +kernel
theorem d_MD_vote_166 : decode b_MD_vote 166 = .ok (.goto (-76), 3) := by decide +kernel
theorem d_MD_vote_169 : decode b_MD_vote 169 = .ok (.aload_n 0, 1) := by decide +kernel
theorem d_MD_vote_170 : decode b_MD_vote 170 = .ok (.getfield 37, 3) := by decide +kernel
theorem d_MD_vote_173 : decode b_MD_vote 173 = .ok (.iconst 4, 1) := by decide +kernel
theorem d_MD_vote_174 : decode b_MD_vote 174 = .ok (.iload_n 1, 1) := by decide +kernel
theorem d_MD_vote_175 : decode b_MD_vote 175 = .ok (.imul, 1) := by decide +kernel
theorem d_MD_vote_176 : decode b_MD_vote 176 = .ok (.iload_n 2, 1) := by decide +kernel
theorem d_MD_vote_177 : decode b_MD_vote 177 = .ok (.iadd, 1) := by decide +kernel
theorem d_MD_vote_178 : decode b_MD_vote 178 = .ok (.iload 6, 2) := by decide +kernel
theorem d_MD_vote_180 : decode b_MD_vote 180 = .ok (.iastore, 1) := by decide +kernel
theorem d_MD_vote_181 : decode b_MD_vote 181 = .ok (.iconst 0, 1) := by decide +kernel
theorem d_MD_vote_182 : decode b_MD_vote 182 = .ok (.istore 7, 2) := by decide +kernel
theorem d_MD_vote_184 : decode b_MD_vote 184 = .ok (.iload 7, 2) := by decide +kernel
theorem d_MD_vote_186 : decode b_MD_vote 186 = .ok (.aload_n 0, 1) := by decide +kernel
theorem d_MD_vote_187 : decode b_MD_vote 187 = .ok (.getfield 73, 3) := by decide +kernel
theorem d_MD_vote_190 : decode b_MD_vote 190 = .ok (.if_icmp .ge 88, 3) := by decide +kernel
theorem d_MD_vote_193 : decode b_MD_vote 193 = .ok (.aload_n 0, 1) := by decide +kernel
theorem d_MD_vote_194 : decode b_MD_vote 194 = .ok (.iload 7, 2) := by decide +kernel
theorem d_MD_vote_196 : decode b_MD_vote 196 = .ok (.iload_n 1, 1) := by decide +kernel
theorem d_MD_vote_197 : decode b_MD_vote 197 = .ok (.invokevirtual 97, 3) := by decide +kernel
theorem d_MD_vote_200 : decode b_MD_vote 200 = .ok (.ifCond .eq 26, 3) := by decide +kernel
theorem d_MD_vote_203 : decode b_MD_vote 203 = .ok (.aload_n 0, 1) := by decide +kernel
theorem d_MD_vote_204 : decode b_MD_vote 204 = .ok (.iload 7, 2) := by decide +kernel
theorem d_MD_vote_206 : decode b_MD_vote 206 = .ok (.iload_n 1, 1) := by decide +kernel
theorem d_MD_vote_207 : decode b_MD_vote 207 = .ok (.aload_n 0, 1) := by decide +kernel
theorem d_MD_vote_208 : decode b_MD_vote 208 = .ok (.getfield 34, 3) := by decide +kernel
theorem d_MD_vote_211 : decode b_MD_vote 211 = .ok (.iload 7, 2) := by decide +kernel
theorem d_MD_vote_213 : decode b_MD_vote 213 = .ok (.iaload, 1) := by decide +kernel
theorem d_MD_vote_214 : decode b_MD_vote 214 = .ok (.invokevirtual 100, 3) := by decide +kernel
theorem d_MD_vote_217 : decode b_MD_vote 217 = .ok (.iload 6, 2) := by decide +kernel
theorem d_MD_vote_219 : decode b_MD_vote 219 = .ok (.if_icmp .ne 7, 3) := by decide +kernel
theorem d_MD_vote_222 : decode b_MD_vote 222 = .ok (.iconst 1, 1) := by decide +kernel
theorem d_MD_vote_223 : decode b_MD_vote 223 = .ok (.goto 4, 3) := by decide +kernel
theorem d_MD_vote_226 : decode b_MD_vote 226 = .ok (.iconst 0, 1) := by decide +kernel
theorem d_MD_vote_227 : decode b_MD_vote 227 = .ok (.istore 8, 2) := by decide +kernel
theorem d_MD_vote_229 : decode b_MD_vote 229 = .ok (.iload 5, 2) := by decide +kernel
theorem d_MD_vote_231 : decode b_MD_vote 231 = .ok (.ifCond .eq 41, 3) := by decide +kernel
theorem d_MD_vote_234 : decode b_MD_vote 234 = .ok (.iload 7, 2) := by decide +kernel
theorem d_MD_vote_236 : decode b_MD_vote 236 = .ok (.iload_n 1, 1) := by decide +kernel
theorem d_MD_vote_237 : decode b_MD_vote 237 = .ok (.if_icmp .eq 35, 3) := by decide +kernel
theorem d_MD_vote_240 : decode b_MD_vote 240 = .ok (.aload_n 0, 1) := by decide +kernel
theorem d_MD_vote_241 : decode b_MD_vote 241 = .ok (.iload_n 1, 1) := by decide +kernel
theorem d_MD_vote_242 : decode b_MD_vote 242 = .ok (.iload 7, 2) := by decide +kernel
theorem d_MD_vote_244 : decode b_MD_vote 244 = .ok (.invokevirtual 90, 3) := by decide +kernel
theorem d_MD_vote_247 : decode b_MD_vote 247 = .ok (.ifCond .eq 25, 3) := by decide +kernel
theorem d_MD_vote_250 : decode b_MD_vote 250 = .ok (.iload 8, 2) := by decide +kernel
theorem d_MD_vote_252 : decode b_MD_vote 252 = .ok (.ifCond .ne 20, 3) := by decide +kernel
theorem d_MD_vote_255 : decode b_MD_vote 255 = .ok (.aload_n 0, 1) := by decide +kernel
theorem d_MD_vote_256 : decode b_MD_vote 256 = .ok (.getfield 28, 3) := by decide +kernel
theorem d_MD_vote_259 : decode b_MD_vote 259 = .ok (.iload_n 1, 1) := by decide +kernel
theorem d_MD_vote_260 : decode b_MD_vote 260 = .ok (.aload_n 0, 1) := by decide +kernel
theorem d_MD_vote_261 : decode b_MD_vote 261 = .ok (.getfield 28, 3) := by decide +kernel
theorem d_MD_vote_264 : decode b_MD_vote 264 = .ok (.iload_n 1, 1) := by decide +kernel
theorem d_MD_vote_265 : decode b_MD_vote 265 = .ok (.iaload, 1) := by decide +kernel
theorem d_MD_vote_266 : decode b_MD_vote 266 = .ok (.iconst 1, 1) := by decide +kernel
theorem d_MD_vote_267 : decode b_MD_vote 267 = .ok (.iload 7, 2) := by decide +kernel
theorem d_MD_vote_269 : decode b_MD_vote 269 = .ok (.ishl, 1) := by decide +kernel
theorem d_MD_vote_270 : decode b_MD_vote 270 = .ok (.ior, 1) := by decide +kernel
theorem d_MD_vote_271 : decode b_MD_vote 271 = .ok (.iastore, 1) := by decide +kernel
theorem d_MD_vote_272 : decode b_MD_vote 272 = .ok (.iinc 7 1, 3) := by decide +kernel
theorem d_MD_vote_275 : decode b_MD_vote 275 = .ok (.goto (-91), 3) := by decide +kernel
theorem d_MD_vote_278 : decode b_MD_vote 278 = .ok (.return_, 1) := by decide +kernel
theorem d_MD_strike_0 : decode b_MD_strike 0 = .ok (.aload_n 0, 1) := by decide +kernel
theorem d_MD_strike_1 : decode b_MD_strike 1 = .ok (.iload_n 1, 1) := by decide +kernel
theorem d_MD_strike_2 : decode b_MD_strike 2 = .ok (.invokevirtual 111, 3) := by decide +kernel
theorem d_MD_strike_5 : decode b_MD_strike 5 = .ok (.istore_n 2, 1) := by decide +kernel
theorem d_MD_strike_6 : decode b_MD_strike 6 = .ok (.iconst 0, 1) := by decide +kernel
theorem d_MD_strike_7 : decode b_MD_strike 7 = .ok (.istore_n 3, 1) := by decide +kernel
theorem d_MD_strike_8 : decode b_MD_strike 8 = .ok (.iconst 0, 1) := by decide +kernel
theorem d_MD_strike_9 : decode b_MD_strike 9 = .ok (.istore 4, 2) := by decide +kernel
theorem d_MD_strike_11 : decode b_MD_strike 11 = .ok (.iload 4, 2) := by decide +kernel
theorem d_MD_strike_13 : decode b_MD_strike 13 = .ok (.aload_n 0, 1) := by decide +kernel
theorem d_MD_strike_14 : decode b_MD_strike 14 = .ok (.getfield 73, 3) := by decide +kernel
theorem d_MD_strike_17 : decode b_MD_strike 17 = .ok (.if_icmp .ge 110, 3) := by decide +kernel
theorem d_MD_strike_20 : decode b_MD_strike 20 = .ok (.iconst 0, 1) := by decide +kernel
theorem d_MD_strike_21 : decode b_MD_strike 21 = .ok (.istore 5, 2) := by decide +kernel
theorem d_MD_strike_23 : decode b_MD_strike 23 = .ok (.iconst 0, 1) := by decide +kernel
theorem d_MD_strike_24 : decode b_MD_strike 24 = .ok (.istore 6, 2) := by decide +kernel
theorem d_MD_strike_26 : decode b_MD_strike 26 = .ok (.iload 6, 2) := by decide +kernel
theorem d_MD_strike_28 : decode b_MD_strike 28 = .ok (.aload_n 0, 1) := by decide +kernel
theorem d_MD_strike_29 : decode b_MD_strike 29 = .ok (.getfield 73, 3) := by decide +kernel
theorem d_MD_strike_32 : decode b_MD_strike 32 = .ok (.if_icmp .ge 50, 3) := by decide +kernel
theorem d_MD_strike_35 : decode b_MD_strike 35 = .ok (.iload 6, 2) := by decide +kernel
theorem d_MD_strike_37 : decode b_MD_strike 37 = .ok (.iload 4, 2) := by decide +kernel
theorem d_MD_strike_39 : decode b_MD_strike 39 = .ok (.if_icmp .eq 37, 3) := by decide +kernel
theorem d_MD_strike_42 : decode b_MD_strike 42 = .ok (.aload_n 0, 1) := by decide +kernel
theorem d_MD_strike_43 : decode b_MD_strike 43 = .ok (.iload_n 1, 1) := by decide +kernel
theorem d_MD_strike_44 : decode b_MD_strike 44 = .ok (.iload 6, 2) := by decide +kernel
theorem d_MD_strike_46 : decode b_MD_strike 46 = .ok (.invokevirtual 90, 3) := by decide +kernel
theorem d_MD_strike_49 : decode b_MD_strike 49 = .ok (.ifCond .eq 27, 3) := by decide +kernel
theorem d_MD_strike_52 : decode b_MD_strike 52 = .ok (.aload_n 0, 1) := by decide +kernel
theorem d_MD_strike_53 : decode b_MD_strike 53 = .ok (.getfield 43, 3) := by decide +kernel
theorem d_MD_strike_56 : decode b_MD_strike 56 = .ok (.bipush 7, 2) := by decide +kernel
theorem d_MD_strike_58 : decode b_MD_strike 58 = .ok (.iload_n 1, 1) := by decide +kernel
theorem d_MD_strike_59 : decode b_MD_strike 59 = .ok (.imul, 1) := by decide +kernel
theorem d_MD_strike_60 : decode b_MD_strike 60 = .ok (.iload 6, 2) := by decide +kernel
theorem d_MD_strike_62 : decode b_MD_strike 62 = .ok (.iadd, 1) := by decide +kernel
theorem d_MD_strike_63 : decode b_MD_strike 63 = .ok (.iaload, 1) := by decide +kernel
theorem d_MD_strike_64 : decode b_MD_strike 64 = .ok (.iload 4, 2) := by decide +kernel
theorem d_MD_strike_66 : decode b_MD_strike 66 = .ok (.ishr, 1) := by decide +kernel
theorem d_MD_strike_67 : decode b_MD_strike 67 = .ok (.iconst 1, 1) := by decide +kernel
theorem d_MD_strike_68 : decode b_MD_strike 68 = .ok (.iand, 1) := by decide +kernel
theorem d_MD_strike_69 : decode b_MD_strike 69 = .ok (.iconst 1, 1) := by decide +kernel
theorem d_MD_strike_70 : decode b_MD_strike 70 = .ok (.if_icmp .ne 6, 3) := by decide +kernel
theorem d_MD_strike_73 : decode b_MD_strike 73 = .ok (.iinc 5 1, 3) := by decide +kernel
theorem d_MD_strike_76 : decode b_MD_strike 76 = .ok (.iinc 6 1, 3) := by decide +kernel
theorem d_MD_strike_79 : decode b_MD_strike 79 = .ok (.goto (-53), 3) := by decide +kernel
theorem d_MD_strike_82 : decode b_MD_strike 82 = .ok (.iload 4, 2) := by decide +kernel
theorem d_MD_strike_84 : decode b_MD_strike 84 = .ok (.iload_n 1, 1) := by decide +kernel
theorem d_MD_strike_85 : decode b_MD_strike 85 = .ok (.if_icmp .eq 36, 3) := by decide +kernel
theorem d_MD_strike_88 : decode b_MD_strike 88 = .ok (.aload_n 0, 1) := by decide +kernel
theorem d_MD_strike_89 : decode b_MD_strike 89 = .ok (.iload_n 1, 1) := by decide +kernel
theorem d_MD_strike_90 : decode b_MD_strike 90 = .ok (.iload 4, 2) := by decide +kernel
theorem d_MD_strike_92 : decode b_MD_strike 92 = .ok (.invokevirtual 90, 3) := by decide +kernel
theorem d_MD_strike_95 : decode b_MD_strike 95 = .ok (.ifCond .eq 26, 3) := by decide +kernel
theorem d_MD_strike_98 : decode b_MD_strike 98 = .ok (.iload 5, 2) := by decide +kernel
theorem d_MD_strike_100 : decode b_MD_strike 100 = .ok (.iload_n 2, 1) := by decide +kernel
theorem d_MD_strike_101 : decode b_MD_strike 101 = .ok (.if_icmp .le 20, 3) := by decide +kernel
theorem d_MD_strike_104 : decode b_MD_strike 104 = .ok (.iload_n 3, 1) := by decide +kernel
theorem d_MD_strike_105 : decode b_MD_strike 105 = .ok (.iconst 1, 1) := by decide +kernel
theorem d_MD_strike_106 : decode b_MD_strike 106 = .ok (.iload 4, 2) := by decide +kernel
theorem d_MD_strike_108 : decode b_MD_strike 108 = .ok (.ishl, 1) := by decide +kernel
theorem d_MD_strike_109 : decode b_MD_strike 109 = .ok (.ior, 1) := by decide +kernel
theorem d_MD_strike_110 : decode b_MD_strike 110 = .ok (.istore_n 3, 1) := by decide +kernel
theorem d_MD_strike_111 : decode b_MD_strike 111 = .ok (.aload_n 0, 1) := by decide +kernel
theorem d_MD_strike_112 : decode b_MD_strike 112 = .ok (.dup, 1) := by decide +kernel
theorem d_MD_strike_113 : decode b_MD_strike 113 = .ok (.getfield 155, 3) := by decide +kernel
theorem d_MD_strike_116 : decode b_MD_strike 116 = .ok (.iconst 1, 1) := by decide +kernel
theorem d_MD_strike_117 : decode b_MD_strike 117 = .ok (.iadd, 1) := by decide +kernel
theorem d_MD_strike_118 : decode b_MD_strike 118 = .ok (.putfield 155, 3) := by decide +kernel
theorem d_MD_strike_121 : decode b_MD_strike 121 = .ok (.iinc 4 1, 3) := by decide +kernel
theorem d_MD_strike_124 : decode b_MD_strike 124 = .ok (.goto (-113), 3) := by decide +kernel
theorem d_MD_strike_127 : decode b_MD_strike 127 = .ok (.aload_n 0, 1) := by decide +kernel
theorem d_MD_strike_128 : decode b_MD_strike 128 = .ok (.getfield 25, 3) := by decide +kernel
theorem d_MD_strike_131 : decode b_MD_strike 131 = .ok (.iload_n 1, 1) := by decide +kernel
theorem d_MD_strike_132 : decode b_MD_strike 132 = .ok (.aload_n 0, 1) := by decide +kernel
theorem d_MD_strike_133 : decode b_MD_strike 133 = .ok (.getfield 25, 3) := by decide +kernel
theorem d_MD_strike_136 : decode b_MD_strike 136 = .ok (.iload_n 1, 1) := by decide +kernel
theorem d_MD_strike_137 : decode b_MD_strike 137 = .ok (.iaload, 1) := by decide +kernel
theorem d_MD_strike_138 : decode b_MD_strike 138 = .ok (.iload_n 3, 1) := by decide +kernel
theorem d_MD_strike_139 : decode b_MD_strike 139 = .ok (.iconst (-1), 1) := by decide +kernel
theorem d_MD_strike_140 : decode b_MD_strike 140 = .ok (.ixor, 1) := by decide +kernel
theorem d_MD_strike_141 : decode b_MD_strike 141 = .ok (.iand, 1) := by decide +kernel
theorem d_MD_strike_142 : decode b_MD_strike 142 = .ok (.iastore, 1) := by decide +kernel
theorem d_MD_strike_143 : decode b_MD_strike 143 = .ok (.return_, 1) := by decide +kernel
theorem d_MD_mean_0 : decode b_MD_mean 0 = .ok (.iconst 0, 1) := by decide +kernel
theorem d_MD_mean_1 : decode b_MD_mean 1 = .ok (.istore_n 2, 1) := by decide +kernel
theorem d_MD_mean_2 : decode b_MD_mean 2 = .ok (.iconst 0, 1) := by decide +kernel
theorem d_MD_mean_3 : decode b_MD_mean 3 = .ok (.istore_n 3, 1) := by decide +kernel
theorem d_MD_mean_4 : decode b_MD_mean 4 = .ok (.iload_n 3, 1) := by decide +kernel
theorem d_MD_mean_5 : decode b_MD_mean 5 = .ok (.aload_n 0, 1) := by decide +kernel
theorem d_MD_mean_6 : decode b_MD_mean 6 = .ok (.getfield 73, 3) := by decide +kernel
theorem d_MD_mean_9 : decode b_MD_mean 9 = .ok (.if_icmp .ge 92, 3) := by decide +kernel
theorem d_MD_mean_12 : decode b_MD_mean 12 = .ok (.iload_n 3, 1) := by decide +kernel
theorem d_MD_mean_13 : decode b_MD_mean 13 = .ok (.iload_n 1, 1) := by decide +kernel
theorem d_MD_mean_14 : decode b_MD_mean 14 = .ok (.if_icmp .eq 81, 3) := by decide +kernel
theorem d_MD_mean_17 : decode b_MD_mean 17 = .ok (.aload_n 0, 1) := by decide +kernel
theorem d_MD_mean_18 : decode b_MD_mean 18 = .ok (.iload_n 1, 1) := by decide +kernel
theorem d_MD_mean_19 : decode b_MD_mean 19 = .ok (.iload_n 3, 1) := by decide +kernel
theorem d_MD_mean_20 : decode b_MD_mean 20 = .ok (.invokevirtual 90, 3) := by decide +kernel
theorem d_MD_mean_23 : decode b_MD_mean 23 = .ok (.ifCond .eq 72, 3) := by decide +kernel
theorem d_MD_mean_26 : decode b_MD_mean 26 = .ok (.aload_n 0, 1) := by decide +kernel
theorem d_MD_mean_27 : decode b_MD_mean 27 = .ok (.getfield 19, 3) := by decide +kernel
theorem d_MD_mean_30 : decode b_MD_mean 30 = .ok (.iload_n 3, 1) := by decide +kernel
theorem d_MD_mean_31 : decode b_MD_mean 31 = .ok (.iaload, 1) := by decide +kernel
theorem d_MD_mean_32 : decode b_MD_mean 32 = .ok (.iconst 1, 1) := by decide +kernel
theorem d_MD_mean_33 : decode b_MD_mean 33 = .ok (.if_icmp .eq 62, 3) := by decide +kernel
theorem d_MD_mean_36 : decode b_MD_mean 36 = .ok (.aload_n 0, 1) := by decide +kernel
theorem d_MD_mean_37 : decode b_MD_mean 37 = .ok (.iload_n 3, 1) := by decide +kernel
theorem d_MD_mean_38 : decode b_MD_mean 38 = .ok (.iload_n 1, 1) := by decide +kernel
theorem d_MD_mean_39 : decode b_MD_mean 39 = .ok (.invokevirtual 158, 3) := by decide +kernel
theorem d_MD_mean_42 : decode b_MD_mean 42 = .ok (.aload_n 0, 1) := by decide +kernel
theorem d_MD_mean_43 : decode b_MD_mean 43 = .ok (.getfield 49, 3) := by decide +kernel
theorem d_MD_mean_46 : decode b_MD_mean 46 = .ok (.bipush 7, 2) := by decide +kernel
theorem d_MD_mean_48 : decode b_MD_mean 48 = .ok (.iload_n 3, 1) := by decide +kernel
theorem d_MD_mean_49 : decode b_MD_mean 49 = .ok (.imul, 1) := by decide +kernel
theorem d_MD_mean_50 : decode b_MD_mean 50 = .ok (.iload_n 1, 1) := by decide +kernel
theorem d_MD_mean_51 : decode b_MD_mean 51 = .ok (.iadd, 1) := by decide +kernel
theorem d_MD_mean_52 : decode b_MD_mean 52 = .ok (.iaload, 1) := by decide +kernel
theorem d_MD_mean_53 : decode b_MD_mean 53 = .ok (.iadd, 1) := by decide +kernel
theorem d_MD_mean_54 : decode b_MD_mean 54 = .ok (.aload_n 0, 1) := by decide +kernel
theorem d_MD_mean_55 : decode b_MD_mean 55 = .ok (.getfield 7, 3) := by decide +kernel
theorem d_MD_mean_58 : decode b_MD_mean 58 = .ok (.iload_n 1, 1) := by decide +kernel
theorem d_MD_mean_59 : decode b_MD_mean 59 = .ok (.iaload, 1) := by decide +kernel
theorem d_MD_mean_60 : decode b_MD_mean 60 = .ok (.isub, 1) := by decide +kernel
theorem d_MD_mean_61 : decode b_MD_mean 61 = .ok (.istore 4, 2) := by decide +kernel
theorem d_MD_mean_63 : decode b_MD_mean 63 = .ok (.iload 4, 2) := by decide +kernel
theorem d_MD_mean_65 : decode b_MD_mean 65 = .ok (.aload_n 0, 1) := by decide +kernel
theorem d_MD_mean_66 : decode b_MD_mean 66 = .ok (.getfield 80, 3) := by decide +kernel
theorem d_MD_mean_69 : decode b_MD_mean 69 = .ok (.iconst 3, 1) := by decide +kernel
theorem d_MD_mean_70 : decode b_MD_mean 70 = .ok (.iadd, 1) := by decide +kernel
theorem d_MD_mean_71 : decode b_MD_mean 71 = .ok (.ineg, 1) := by decide +kernel
theorem d_MD_mean_72 : decode b_MD_mean 72 = .ok (.if_icmp .lt 14, 3) := by decide +kernel
theorem d_MD_mean_75 : decode b_MD_mean 75 = .ok (.iload 4, 2) := by decide +kernel
theorem d_MD_mean_77 : decode b_MD_mean 77 = .ok (.aload_n 0, 1) := by decide +kernel
theorem d_MD_mean_78 : decode b_MD_mean 78 = .ok (.getfield 80, 3) := by decide +kernel
theorem d_MD_mean_81 : decode b_MD_mean 81 = .ok (.iconst 3, 1) := by decide +kernel
theorem d_MD_mean_82 : decode b_MD_mean 82 = .ok (.iadd, 1) := by decide +kernel
theorem d_MD_mean_83 : decode b_MD_mean 83 = .ok (.if_icmp .le 7, 3) := by decide +kernel
theorem d_MD_mean_86 : decode b_MD_mean 86 = .ok (.iload_n 2, 1) := by decide +kernel
theorem d_MD_mean_87 : decode b_MD_mean 87 = .ok (.goto 7, 3) := by decide +kernel
theorem d_MD_mean_90 : decode b_MD_mean 90 = .ok (.iload_n 2, 1) := by decide +kernel
theorem d_MD_mean_91 : decode b_MD_mean 91 = .ok (.iload 4, 2) := by decide +kernel
theorem d_MD_mean_93 : decode b_MD_mean 93 = .ok (.iadd, 1) := by decide +kernel
theorem d_MD_mean_94 : decode b_MD_mean 94 = .ok (.istore_n 2, 1) := by decide +kernel
theorem d_MD_mean_95 : decode b_MD_mean 95 = .ok (.iinc 3 1, 3) := by decide +kernel
theorem d_MD_mean_98 : decode b_MD_mean 98 = .ok (.goto (-94), 3) := by decide +kernel
theorem d_MD_mean_101 : decode b_MD_mean 101 = .ok (.iload_n 2, 1) := by decide +kernel
theorem d_MD_mean_102 : decode b_MD_mean 102 = .ok (.aload_n 0, 1) := by decide +kernel
theorem d_MD_mean_103 : decode b_MD_mean 103 = .ok (.iload_n 1, 1) := by decide +kernel
theorem d_MD_mean_104 : decode b_MD_mean 104 = .ok (.invokevirtual 142, 3) := by decide +kernel
theorem d_MD_mean_107 : decode b_MD_mean 107 = .ok (.invokestatic 126, 3) := by decide +kernel
theorem d_MD_mean_110 : decode b_MD_mean 110 = .ok (.ireturn, 1) := by decide +kernel
theorem d_MD_shows_0 : decode b_MD_shows 0 = .ok (.aload_n 0, 1) := by decide +kernel
theorem d_MD_shows_1 : decode b_MD_shows 1 = .ok (.getfield 22, 3) := by decide +kernel
theorem d_MD_shows_4 : decode b_MD_shows 4 = .ok (.iload_n 1, 1) := by decide +kernel
theorem d_MD_shows_5 : decode b_MD_shows 5 = .ok (.iaload, 1) := by decide +kernel
theorem d_MD_shows_6 : decode b_MD_shows 6 = .ok (.istore_n 3, 1) := by decide +kernel
theorem d_MD_shows_7 : decode b_MD_shows 7 = .ok (.aload_n 0, 1) := by decide +kernel
theorem d_MD_shows_8 : decode b_MD_shows 8 = .ok (.getfield 19, 3) := by decide +kernel
theorem d_MD_shows_11 : decode b_MD_shows 11 = .ok (.iload_n 1, 1) := by decide +kernel
theorem d_MD_shows_12 : decode b_MD_shows 12 = .ok (.iaload, 1) := by decide +kernel
theorem d_MD_shows_13 : decode b_MD_shows 13 = .ok (.istore 4, 2) := by decide +kernel
theorem d_MD_shows_15 : decode b_MD_shows 15 = .ok (.iload 4, 2) := by decide +kernel
theorem d_MD_shows_17 : decode b_MD_shows 17 = .ok (.iconst 2, 1) := by decide +kernel
theorem d_MD_shows_18 : decode b_MD_shows 18 = .ok (.if_icmp .ne 7, 3) := by decide +kernel
theorem d_MD_shows_21 : decode b_MD_shows 21 = .ok (.iload_n 3, 1) := by decide +kernel
theorem d_MD_shows_22 : decode b_MD_shows 22 = .ok (.goto 54, 3) := by decide +kernel
theorem d_MD_shows_25 : decode b_MD_shows 25 = .ok (.iload 4, 2) := by decide +kernel
theorem d_MD_shows_27 : decode b_MD_shows 27 = .ok (.iconst 3, 1) := by decide +kernel
theorem d_MD_shows_28 : decode b_MD_shows 28 = .ok (.if_icmp .ne 21, 3) := by decide +kernel
theorem d_MD_shows_31 : decode b_MD_shows 31 = .ok (.iload_n 2, 1) := by decide +kernel
theorem d_MD_shows_32 : decode b_MD_shows 32 = .ok (.iconst 2, 1) := by decide +kernel
theorem d_MD_shows_33 : decode b_MD_shows 33 = .ok (.irem, 1) := by decide +kernel
theorem d_MD_shows_34 : decode b_MD_shows 34 = .ok (.iconst 1, 1) := by decide +kernel
theorem d_MD_shows_35 : decode b_MD_shows 35 = .ok (.if_icmp .ne 14, 3) := by decide +kernel
theorem d_MD_shows_38 : decode b_MD_shows 38 = .ok (.aload_n 0, 1) := by decide +kernel
theorem d_MD_shows_39 : decode b_MD_shows 39 = .ok (.getfield 7, 3) := by decide +kernel
theorem d_MD_shows_42 : decode b_MD_shows 42 = .ok (.iload_n 1, 1) := by decide +kernel
theorem d_MD_shows_43 : decode b_MD_shows 43 = .ok (.iaload, 1) := by decide +kernel
theorem d_MD_shows_44 : decode b_MD_shows 44 = .ok (.iload_n 3, 1) := by decide +kernel
theorem d_MD_shows_45 : decode b_MD_shows 45 = .ok (.iadd, 1) := by decide +kernel
theorem d_MD_shows_46 : decode b_MD_shows 46 = .ok (.goto 30, 3) := by decide +kernel
theorem d_MD_shows_49 : decode b_MD_shows 49 = .ok (.iload 4, 2) := by decide +kernel
theorem d_MD_shows_51 : decode b_MD_shows 51 = .ok (.iconst 4, 1) := by decide +kernel
theorem d_MD_shows_52 : decode b_MD_shows 52 = .ok (.if_icmp .ne 18, 3) := by decide +kernel
theorem d_MD_shows_55 : decode b_MD_shows 55 = .ok (.aload_n 0, 1) := by decide +kernel
theorem d_MD_shows_56 : decode b_MD_shows 56 = .ok (.getfield 7, 3) := by decide +kernel
theorem d_MD_shows_59 : decode b_MD_shows 59 = .ok (.iload_n 1, 1) := by decide +kernel
theorem d_MD_shows_60 : decode b_MD_shows 60 = .ok (.iaload, 1) := by decide +kernel
theorem d_MD_shows_61 : decode b_MD_shows 61 = .ok (.iload_n 3, 1) := by decide +kernel
theorem d_MD_shows_62 : decode b_MD_shows 62 = .ok (.iload_n 2, 1) := by decide +kernel
theorem d_MD_shows_63 : decode b_MD_shows 63 = .ok (.iconst 1, 1) := by decide +kernel
theorem d_MD_shows_64 : decode b_MD_shows 64 = .ok (.iadd, 1) := by decide +kernel
theorem d_MD_shows_65 : decode b_MD_shows 65 = .ok (.imul, 1) := by decide +kernel
theorem d_MD_shows_66 : decode b_MD_shows 66 = .ok (.iadd, 1) := by decide +kernel
theorem d_MD_shows_67 : decode b_MD_shows 67 = .ok (.goto 9, 3) := by decide +kernel
theorem d_MD_shows_70 : decode b_MD_shows 70 = .ok (.aload_n 0, 1) := by decide +kernel
theorem d_MD_shows_71 : decode b_MD_shows 71 = .ok (.getfield 7, 3) := by decide +kernel
theorem d_MD_shows_74 : decode b_MD_shows 74 = .ok (.iload_n 1, 1) := by decide +kernel
theorem d_MD_shows_75 : decode b_MD_shows 75 = .ok (.iaload, 1) := by decide +kernel
theorem d_MD_shows_76 : decode b_MD_shows 76 = .ok (.ireturn, 1) := by decide +kernel
theorem d_MD_frame_0 : decode b_MD_frame 0 = .ok (.aload_n 0, 1) := by decide +kernel
theorem d_MD_frame_1 : decode b_MD_frame 1 = .ok (.getfield 94, 3) := by decide +kernel
theorem d_MD_frame_4 : decode b_MD_frame 4 = .ok (.ireturn, 1) := by decide +kernel
theorem d_MD_reading_0 : decode b_MD_reading 0 = .ok (.aload_n 0, 1) := by decide +kernel
theorem d_MD_reading_1 : decode b_MD_reading 1 = .ok (.iload_n 1, 1) := by decide +kernel
theorem d_MD_reading_2 : decode b_MD_reading 2 = .ok (.invokevirtual 83, 3) := by decide +kernel
theorem d_MD_reading_5 : decode b_MD_reading 5 = .ok (.ifCond .eq 12, 3) := by decide +kernel
theorem d_MD_reading_8 : decode b_MD_reading 8 = .ok (.aload_n 0, 1) := by decide +kernel
theorem d_MD_reading_9 : decode b_MD_reading 9 = .ok (.getfield 7, 3) := by decide +kernel
theorem d_MD_reading_12 : decode b_MD_reading 12 = .ok (.iload_n 1, 1) := by decide +kernel
theorem d_MD_reading_13 : decode b_MD_reading 13 = .ok (.iaload, 1) := by decide +kernel
theorem d_MD_reading_14 : decode b_MD_reading 14 = .ok (.goto 4, 3) := by decide +kernel
theorem d_MD_reading_17 : decode b_MD_reading 17 = .ok (.iconst 0, 1) := by decide +kernel
theorem d_MD_reading_18 : decode b_MD_reading 18 = .ok (.ireturn, 1) := by decide +kernel
theorem d_MD_correction_0 : decode b_MD_correction 0 = .ok (.aload_n 0, 1) := by decide +kernel
theorem d_MD_correction_1 : decode b_MD_correction 1 = .ok (.iload_n 1, 1) := by decide +kernel
theorem d_MD_correction_2 : decode b_MD_correction 2 = .ok (.invokevirtual 83, 3) := by decide +kernel
theorem d_MD_correction_5 : decode b_MD_correction 5 = .ok (.ifCond .eq 12, 3) := by decide +kernel
theorem d_MD_correction_8 : decode b_MD_correction 8 = .ok (.aload_n 0, 1) := by decide +kernel
theorem d_MD_correction_9 : decode b_MD_correction 9 = .ok (.getfield 31, 3) := by decide +kernel
theorem d_MD_correction_12 : decode b_MD_correction 12 = .ok (.iload_n 1, 1) := by decide +kernel
theorem d_MD_correction_13 : decode b_MD_correction 13 = .ok (.iaload, 1) := by decide +kernel
theorem d_MD_correction_14 : decode b_MD_correction 14 = .ok (.goto 4, 3) := by decide +kernel
theorem d_MD_correction_17 : decode b_MD_correction 17 = .ok (.iconst 0, 1) := by decide +kernel
theorem d_MD_correction_18 : decode b_MD_correction 18 = .ok (.ireturn, 1) := by decide +kernel
theorem d_MD_input_0 : decode b_MD_input 0 = .ok (.aload_n 0, 1) := by decide +kernel
theorem d_MD_input_1 : decode b_MD_input 1 = .ok (.iload_n 1, 1) := by decide +kernel
theorem d_MD_input_2 : decode b_MD_input 2 = .ok (.invokevirtual 83, 3) := by decide +kernel
theorem d_MD_input_5 : decode b_MD_input 5 = .ok (.ifCond .eq 25, 3) := by decide +kernel
theorem d_MD_input_8 : decode b_MD_input 8 = .ok (.aload_n 0, 1) := by decide +kernel
theorem d_MD_input_9 : decode b_MD_input 9 = .ok (.iload_n 2, 1) := by decide +kernel
theorem d_MD_input_10 : decode b_MD_input 10 = .ok (.invokevirtual 83, 3) := by decide +kernel
theorem d_MD_input_13 : decode b_MD_input 13 = .ok (.ifCond .eq 17, 3) := by decide +kernel
theorem d_MD_input_16 : decode b_MD_input 16 = .ok (.aload_n 0, 1) := by decide +kernel
theorem d_MD_input_17 : decode b_MD_input 17 = .ok (.getfield 40, 3) := by decide +kernel
theorem d_MD_input_20 : decode b_MD_input 20 = .ok (.bipush 7, 2) := by decide +kernel
theorem d_MD_input_22 : decode b_MD_input 22 = .ok (.iload_n 1, 1) := by decide +kernel
theorem d_MD_input_23 : decode b_MD_input 23 = .ok (.imul, 1) := by decide +kernel
theorem d_MD_input_24 : decode b_MD_input 24 = .ok (.iload_n 2, 1) := by decide +kernel
theorem d_MD_input_25 : decode b_MD_input 25 = .ok (.iadd, 1) := by decide +kernel
theorem d_MD_input_26 : decode b_MD_input 26 = .ok (.iaload, 1) := by decide +kernel
theorem d_MD_input_27 : decode b_MD_input 27 = .ok (.goto 4, 3) := by decide +kernel
theorem d_MD_input_30 : decode b_MD_input 30 = .ok (.iconst 0, 1) := by decide +kernel
theorem d_MD_input_31 : decode b_MD_input 31 = .ok (.ireturn, 1) := by decide +kernel
theorem d_MD_charge_0 : decode b_MD_charge 0 = .ok (.aload_n 0, 1) := by decide +kernel
theorem d_MD_charge_1 : decode b_MD_charge 1 = .ok (.iload_n 1, 1) := by decide +kernel
theorem d_MD_charge_2 : decode b_MD_charge 2 = .ok (.invokevirtual 83, 3) := by decide +kernel
theorem d_MD_charge_5 : decode b_MD_charge 5 = .ok (.ifCond .eq 25, 3) := by decide +kernel
theorem d_MD_charge_8 : decode b_MD_charge 8 = .ok (.aload_n 0, 1) := by decide +kernel
theorem d_MD_charge_9 : decode b_MD_charge 9 = .ok (.iload_n 2, 1) := by decide +kernel
theorem d_MD_charge_10 : decode b_MD_charge 10 = .ok (.invokevirtual 83, 3) := by decide +kernel
theorem d_MD_charge_13 : decode b_MD_charge 13 = .ok (.ifCond .eq 17, 3) := by decide +kernel
theorem d_MD_charge_16 : decode b_MD_charge 16 = .ok (.aload_n 0, 1) := by decide +kernel
theorem d_MD_charge_17 : decode b_MD_charge 17 = .ok (.getfield 43, 3) := by decide +kernel
theorem d_MD_charge_20 : decode b_MD_charge 20 = .ok (.bipush 7, 2) := by decide +kernel
theorem d_MD_charge_22 : decode b_MD_charge 22 = .ok (.iload_n 1, 1) := by decide +kernel
theorem d_MD_charge_23 : decode b_MD_charge 23 = .ok (.imul, 1) := by decide +kernel
theorem d_MD_charge_24 : decode b_MD_charge 24 = .ok (.iload_n 2, 1) := by decide +kernel
theorem d_MD_charge_25 : decode b_MD_charge 25 = .ok (.iadd, 1) := by decide +kernel
theorem d_MD_charge_26 : decode b_MD_charge 26 = .ok (.iaload, 1) := by decide +kernel
theorem d_MD_charge_27 : decode b_MD_charge 27 = .ok (.goto 4, 3) := by decide +kernel
theorem d_MD_charge_30 : decode b_MD_charge 30 = .ok (.iconst 0, 1) := by decide +kernel
theorem d_MD_charge_31 : decode b_MD_charge 31 = .ok (.ireturn, 1) := by decide +kernel
theorem d_MD_word_0 : decode b_MD_word 0 = .ok (.aload_n 0, 1) := by decide +kernel
theorem d_MD_word_1 : decode b_MD_word 1 = .ok (.iload_n 1, 1) := by decide +kernel
theorem d_MD_word_2 : decode b_MD_word 2 = .ok (.invokevirtual 83, 3) := by decide +kernel
theorem d_MD_word_5 : decode b_MD_word 5 = .ok (.ifCond .eq 23, 3) := by decide +kernel
theorem d_MD_word_8 : decode b_MD_word 8 = .ok (.iload_n 2, 1) := by decide +kernel
theorem d_MD_word_9 : decode b_MD_word 9 = .ok (.invokestatic 87, 3) := by decide +kernel
theorem d_MD_word_12 : decode b_MD_word 12 = .ok (.ifCond .eq 16, 3) := by decide +kernel
theorem d_MD_word_15 : decode b_MD_word 15 = .ok (.aload_n 0, 1) := by decide +kernel
theorem d_MD_word_16 : decode b_MD_word 16 = .ok (.getfield 37, 3) := by decide +kernel
theorem d_MD_word_19 : decode b_MD_word 19 = .ok (.iconst 4, 1) := by decide +kernel
theorem d_MD_word_20 : decode b_MD_word 20 = .ok (.iload_n 1, 1) := by decide +kernel
theorem d_MD_word_21 : decode b_MD_word 21 = .ok (.imul, 1) := by decide +kernel
theorem d_MD_word_22 : decode b_MD_word 22 = .ok (.iload_n 2, 1) := by decide +kernel
theorem d_MD_word_23 : decode b_MD_word 23 = .ok (.iadd, 1) := by decide +kernel
theorem d_MD_word_24 : decode b_MD_word 24 = .ok (.iaload, 1) := by decide +kernel
theorem d_MD_word_25 : decode b_MD_word 25 = .ok (.goto 4, 3) := by decide +kernel
theorem d_MD_word_28 : decode b_MD_word 28 = .ok (.iconst 0, 1) := by decide +kernel
theorem d_MD_word_29 : decode b_MD_word 29 = .ok (.ireturn, 1) := by decide +kernel
theorem d_MD_members_0 : decode b_MD_members 0 = .ok (.aload_n 0, 1) := by decide +kernel
theorem d_MD_members_1 : decode b_MD_members 1 = .ok (.iload_n 1, 1) := by decide +kernel
theorem d_MD_members_2 : decode b_MD_members 2 = .ok (.invokevirtual 83, 3) := by decide +kernel
theorem d_MD_members_5 : decode b_MD_members 5 = .ok (.ifCond .eq 12, 3) := by decide +kernel
theorem d_MD_members_8 : decode b_MD_members 8 = .ok (.aload_n 0, 1) := by decide +kernel
theorem d_MD_members_9 : decode b_MD_members 9 = .ok (.getfield 25, 3) := by decide +kernel
theorem d_MD_members_12 : decode b_MD_members 12 = .ok (.iload_n 1, 1) := by decide +kernel
theorem d_MD_members_13 : decode b_MD_members 13 = .ok (.iaload, 1) := by decide +kernel
theorem d_MD_members_14 : decode b_MD_members 14 = .ok (.goto 4, 3) := by decide +kernel
theorem d_MD_members_17 : decode b_MD_members 17 = .ok (.iconst 0, 1) := by decide +kernel
theorem d_MD_members_18 : decode b_MD_members 18 = .ok (.ireturn, 1) := by decide +kernel
theorem d_MD_accused_0 : decode b_MD_accused 0 = .ok (.aload_n 0, 1) := by decide +kernel
theorem d_MD_accused_1 : decode b_MD_accused 1 = .ok (.iload_n 1, 1) := by decide +kernel
theorem d_MD_accused_2 : decode b_MD_accused 2 = .ok (.invokevirtual 83, 3) := by decide +kernel
theorem d_MD_accused_5 : decode b_MD_accused 5 = .ok (.ifCond .eq 12, 3) := by decide +kernel
theorem d_MD_accused_8 : decode b_MD_accused 8 = .ok (.aload_n 0, 1) := by decide +kernel
theorem d_MD_accused_9 : decode b_MD_accused 9 = .ok (.getfield 28, 3) := by decide +kernel
theorem d_MD_accused_12 : decode b_MD_accused 12 = .ok (.iload_n 1, 1) := by decide +kernel
theorem d_MD_accused_13 : decode b_MD_accused 13 = .ok (.iaload, 1) := by decide +kernel
theorem d_MD_accused_14 : decode b_MD_accused 14 = .ok (.goto 4, 3) := by decide +kernel
theorem d_MD_accused_17 : decode b_MD_accused 17 = .ok (.iconst 0, 1) := by decide +kernel
theorem d_MD_accused_18 : decode b_MD_accused 18 = .ok (.ireturn, 1) := by decide +kernel
theorem d_MD_spread_0 : decode b_MD_spread 0 = .ok (.iconst 0, 1) := by decide +kernel
theorem d_MD_spread_1 : decode b_MD_spread 1 = .ok (.istore_n 1, 1) := by decide +kernel
theorem d_MD_spread_2 : decode b_MD_spread 2 = .ok (.iconst 0, 1) := by decide +kernel
theorem d_MD_spread_3 : decode b_MD_spread 3 = .ok (.istore_n 2, 1) := by decide +kernel
theorem d_MD_spread_4 : decode b_MD_spread 4 = .ok (.iload_n 2, 1) := by decide +kernel
theorem d_MD_spread_5 : decode b_MD_spread 5 = .ok (.aload_n 0, 1) := by decide +kernel
theorem d_MD_spread_6 : decode b_MD_spread 6 = .ok (.getfield 73, 3) := by decide +kernel
theorem d_MD_spread_9 : decode b_MD_spread 9 = .ok (.if_icmp .ge 67, 3) := by decide +kernel
theorem d_MD_spread_12 : decode b_MD_spread 12 = .ok (.iconst 0, 1) := by decide +kernel
theorem d_MD_spread_13 : decode b_MD_spread 13 = .ok (.istore_n 3, 1) := by decide +kernel
theorem d_MD_spread_14 : decode b_MD_spread 14 = .ok (.iload_n 3, 1) := by decide +kernel
theorem d_MD_spread_15 : decode b_MD_spread 15 = .ok (.aload_n 0, 1) := by decide +kernel
theorem d_MD_spread_16 : decode b_MD_spread 16 = .ok (.getfield 73, 3) := by decide +kernel
theorem d_MD_spread_19 : decode b_MD_spread 19 = .ok (.if_icmp .ge 51, 3) := by decide +kernel
theorem d_MD_spread_22 : decode b_MD_spread 22 = .ok (.aload_n 0, 1) := by decide +kernel
theorem d_MD_spread_23 : decode b_MD_spread 23 = .ok (.getfield 7, 3) := by decide +kernel
theorem d_MD_spread_26 : decode b_MD_spread 26 = .ok (.iload_n 2, 1) := by decide +kernel
theorem d_MD_spread_27 : decode b_MD_spread 27 = .ok (.iaload, 1) := by decide +kernel
theorem d_MD_spread_28 : decode b_MD_spread 28 = .ok (.aload_n 0, 1) := by decide +kernel
theorem d_MD_spread_29 : decode b_MD_spread 29 = .ok (.getfield 7, 3) := by decide +kernel
theorem d_MD_spread_32 : decode b_MD_spread 32 = .ok (.iload_n 3, 1) := by decide +kernel
theorem d_MD_spread_33 : decode b_MD_spread 33 = .ok (.iaload, 1) := by decide +kernel
theorem d_MD_spread_34 : decode b_MD_spread 34 = .ok (.isub, 1) := by decide +kernel
theorem d_MD_spread_35 : decode b_MD_spread 35 = .ok (.istore 4, 2) := by decide +kernel
theorem d_MD_spread_37 : decode b_MD_spread 37 = .ok (.aload_n 0, 1) := by decide +kernel
theorem d_MD_spread_38 : decode b_MD_spread 38 = .ok (.getfield 19, 3) := by decide +kernel
theorem d_MD_spread_41 : decode b_MD_spread 41 = .ok (.iload_n 2, 1) := by decide +kernel
theorem d_MD_spread_42 : decode b_MD_spread 42 = .ok (.iaload, 1) := by decide +kernel
theorem d_MD_spread_43 : decode b_MD_spread 43 = .ok (.ifCond .ne 21, 3) := by decide +kernel
theorem d_MD_spread_46 : decode b_MD_spread 46 = .ok (.aload_n 0, 1) := by decide +kernel
theorem d_MD_spread_47 : decode b_MD_spread 47 = .ok (.getfield 19, 3) := by decide +kernel
theorem d_MD_spread_50 : decode b_MD_spread 50 = .ok (.iload_n 3, 1) := by decide +kernel
theorem d_MD_spread_51 : decode b_MD_spread 51 = .ok (.iaload, 1) := by decide +kernel
theorem d_MD_spread_52 : decode b_MD_spread 52 = .ok (.ifCond .ne 12, 3) := by decide +kernel
theorem d_MD_spread_55 : decode b_MD_spread 55 = .ok (.iload 4, 2) := by decide +kernel
theorem d_MD_spread_57 : decode b_MD_spread 57 = .ok (.iload_n 1, 1) := by decide +kernel
theorem d_MD_spread_58 : decode b_MD_spread 58 = .ok (.if_icmp .le 6, 3) := by decide +kernel
theorem d_MD_spread_61 : decode b_MD_spread 61 = .ok (.iload 4, 2) := by decide +kernel
theorem d_MD_spread_63 : decode b_MD_spread 63 = .ok (.istore_n 1, 1) := by decide +kernel
theorem d_MD_spread_64 : decode b_MD_spread 64 = .ok (.iinc 3 1, 3) := by decide +kernel
theorem d_MD_spread_67 : decode b_MD_spread 67 = .ok (.goto (-53), 3) := by decide +kernel
theorem d_MD_spread_70 : decode b_MD_spread 70 = .ok (.iinc 2 1, 3) := by decide +kernel
theorem d_MD_spread_73 : decode b_MD_spread 73 = .ok (.goto (-69), 3) := by decide +kernel
theorem d_MD_spread_76 : decode b_MD_spread 76 = .ok (.iload_n 1, 1) := by decide +kernel
theorem d_MD_spread_77 : decode b_MD_spread 77 = .ok (.ireturn, 1) := by decide +kernel
theorem d_MD_alike_0 : decode b_MD_alike 0 = .ok (.iconst 1, 1) := by decide +kernel
theorem d_MD_alike_1 : decode b_MD_alike 1 = .ok (.istore_n 1, 1) := by decide +kernel
theorem d_MD_alike_2 : decode b_MD_alike 2 = .ok (.iconst 0, 1) := by decide +kernel
theorem d_MD_alike_3 : decode b_MD_alike 3 = .ok (.istore_n 2, 1) := by decide +kernel
theorem d_MD_alike_4 : decode b_MD_alike 4 = .ok (.iload_n 2, 1) := by decide +kernel
theorem d_MD_alike_5 : decode b_MD_alike 5 = .ok (.aload_n 0, 1) := by decide +kernel
theorem d_MD_alike_6 : decode b_MD_alike 6 = .ok (.getfield 73, 3) := by decide +kernel
theorem d_MD_alike_9 : decode b_MD_alike 9 = .ok (.if_icmp .ge 59, 3) := by decide +kernel
theorem d_MD_alike_12 : decode b_MD_alike 12 = .ok (.iconst 0, 1) := by decide +kernel
theorem d_MD_alike_13 : decode b_MD_alike 13 = .ok (.istore_n 3, 1) := by decide +kernel
theorem d_MD_alike_14 : decode b_MD_alike 14 = .ok (.iload_n 3, 1) := by decide +kernel
theorem d_MD_alike_15 : decode b_MD_alike 15 = .ok (.iload_n 2, 1) := by decide +kernel
theorem d_MD_alike_16 : decode b_MD_alike 16 = .ok (.if_icmp .ge 46, 3) := by decide +kernel
theorem d_MD_alike_19 : decode b_MD_alike 19 = .ok (.aload_n 0, 1) := by decide +kernel
theorem d_MD_alike_20 : decode b_MD_alike 20 = .ok (.getfield 19, 3) := by decide +kernel
theorem d_MD_alike_23 : decode b_MD_alike 23 = .ok (.iload_n 2, 1) := by decide +kernel
theorem d_MD_alike_24 : decode b_MD_alike 24 = .ok (.iaload, 1) := by decide +kernel
theorem d_MD_alike_25 : decode b_MD_alike 25 = .ok (.ifCond .ne 31, 3) := by decide +kernel
theorem d_MD_alike_28 : decode b_MD_alike 28 = .ok (.aload_n 0, 1) := by decide +kernel
theorem d_MD_alike_29 : decode b_MD_alike 29 = .ok (.getfield 19, 3) := by decide +kernel
theorem d_MD_alike_32 : decode b_MD_alike 32 = .ok (.iload_n 3, 1) := by decide +kernel
theorem d_MD_alike_33 : decode b_MD_alike 33 = .ok (.iaload, 1) := by decide +kernel
theorem d_MD_alike_34 : decode b_MD_alike 34 = .ok (.ifCond .ne 22, 3) := by decide +kernel
theorem d_MD_alike_37 : decode b_MD_alike 37 = .ok (.iload_n 1, 1) := by decide +kernel
theorem d_MD_alike_38 : decode b_MD_alike 38 = .ok (.ifCond .eq 16, 3) := by decide +kernel
theorem d_MD_alike_41 : decode b_MD_alike 41 = .ok (.aload_n 0, 1) := by decide +kernel
theorem d_MD_alike_42 : decode b_MD_alike 42 = .ok (.iload_n 2, 1) := by decide +kernel
theorem d_MD_alike_43 : decode b_MD_alike 43 = .ok (.iload_n 3, 1) := by decide +kernel
theorem d_MD_alike_44 : decode b_MD_alike 44 = .ok (.invokevirtual 176, 3) := by decide +kernel
theorem d_MD_alike_47 : decode b_MD_alike 47 = .ok (.ifCond .eq 7, 3) := by decide +kernel
theorem d_MD_alike_50 : decode b_MD_alike 50 = .ok (.iconst 1, 1) := by decide +kernel
theorem d_MD_alike_51 : decode b_MD_alike 51 = .ok (.goto 4, 3) := by decide +kernel
theorem d_MD_alike_54 : decode b_MD_alike 54 = .ok (.iconst 0, 1) := by decide +kernel
theorem d_MD_alike_55 : decode b_MD_alike 55 = .ok (.istore_n 1, 1) := by decide +kernel
theorem d_MD_alike_56 : decode b_MD_alike 56 = .ok (.iinc 3 1, 3) := by decide +kernel
theorem d_MD_alike_59 : decode b_MD_alike 59 = .ok (.goto (-45), 3) := by decide +kernel
theorem d_MD_alike_62 : decode b_MD_alike 62 = .ok (.iinc 2 1, 3) := by decide +kernel
theorem d_MD_alike_65 : decode b_MD_alike 65 = .ok (.goto (-61), 3) := by decide +kernel
theorem d_MD_alike_68 : decode b_MD_alike 68 = .ok (.iload_n 1, 1) := by decide +kernel
theorem d_MD_alike_69 : decode b_MD_alike 69 = .ok (.ireturn, 1) := by decide +kernel
theorem d_MD_twins_0 : decode b_MD_twins 0 = .ok (.aload_n 0, 1) := by decide +kernel
theorem d_MD_twins_1 : decode b_MD_twins 1 = .ok (.getfield 25, 3) := by decide +kernel
theorem d_MD_twins_4 : decode b_MD_twins 4 = .ok (.iload_n 1, 1) := by decide +kernel
theorem d_MD_twins_5 : decode b_MD_twins 5 = .ok (.iaload, 1) := by decide +kernel
theorem d_MD_twins_6 : decode b_MD_twins 6 = .ok (.aload_n 0, 1) := by decide +kernel
theorem d_MD_twins_7 : decode b_MD_twins 7 = .ok (.getfield 25, 3) := by decide +kernel
theorem d_MD_twins_10 : decode b_MD_twins 10 = .ok (.iload_n 2, 1) := by decide +kernel
theorem d_MD_twins_11 : decode b_MD_twins 11 = .ok (.iaload, 1) := by decide +kernel
theorem d_MD_twins_12 : decode b_MD_twins 12 = .ok (.if_icmp .ne 7, 3) := by decide +kernel
theorem d_MD_twins_15 : decode b_MD_twins 15 = .ok (.iconst 1, 1) := by decide +kernel
theorem d_MD_twins_16 : decode b_MD_twins 16 = .ok (.goto 4, 3) := by decide +kernel
theorem d_MD_twins_19 : decode b_MD_twins 19 = .ok (.iconst 0, 1) := by decide +kernel
theorem d_MD_twins_20 : decode b_MD_twins 20 = .ok (.istore_n 3, 1) := by decide +kernel
theorem d_MD_twins_21 : decode b_MD_twins 21 = .ok (.iconst 0, 1) := by decide +kernel
theorem d_MD_twins_22 : decode b_MD_twins 22 = .ok (.istore 4, 2) := by decide +kernel
theorem d_MD_twins_24 : decode b_MD_twins 24 = .ok (.iload 4, 2) := by decide +kernel
theorem d_MD_twins_26 : decode b_MD_twins 26 = .ok (.iconst 4, 1) := by decide +kernel
theorem d_MD_twins_27 : decode b_MD_twins 27 = .ok (.if_icmp .ge 44, 3) := by decide +kernel
theorem d_MD_twins_30 : decode b_MD_twins 30 = .ok (.iload_n 3, 1) := by decide +kernel
theorem d_MD_twins_31 : decode b_MD_twins 31 = .ok (.ifCond .eq 32, 3) := by decide +kernel
theorem d_MD_twins_34 : decode b_MD_twins 34 = .ok (.aload_n 0, 1) := by decide +kernel
theorem d_MD_twins_35 : decode b_MD_twins 35 = .ok (.getfield 37, 3) := by decide +kernel
theorem d_MD_twins_38 : decode b_MD_twins 38 = .ok (.iconst 4, 1) := by decide +kernel
theorem d_MD_twins_39 : decode b_MD_twins 39 = .ok (.iload_n 1, 1) := by decide +kernel
theorem d_MD_twins_40 : decode b_MD_twins 40 = .ok (.imul, 1) := by decide +kernel
theorem d_MD_twins_41 : decode b_MD_twins 41 = .ok (.iload 4, 2) := by decide +kernel
theorem d_MD_twins_43 : decode b_MD_twins 43 = .ok (.iadd, 1) := by decide +kernel
theorem d_MD_twins_44 : decode b_MD_twins 44 = .ok (.iaload, 1) := by decide +kernel
theorem d_MD_twins_45 : decode b_MD_twins 45 = .ok (.aload_n 0, 1) := by decide +kernel
theorem d_MD_twins_46 : decode b_MD_twins 46 = .ok (.getfield 37, 3) := by decide +kernel
theorem d_MD_twins_49 : decode b_MD_twins 49 = .ok (.iconst 4, 1) := by decide +kernel
theorem d_MD_twins_50 : decode b_MD_twins 50 = .ok (.iload_n 2, 1) := by decide +kernel
theorem d_MD_twins_51 : decode b_MD_twins 51 = .ok (.imul, 1) := by decide +kernel
theorem d_MD_twins_52 : decode b_MD_twins 52 = .ok (.iload 4, 2) := by decide +kernel
theorem d_MD_twins_54 : decode b_MD_twins 54 = .ok (.iadd, 1) := by decide +kernel
theorem d_MD_twins_55 : decode b_MD_twins 55 = .ok (.iaload, 1) := by decide +kernel
theorem d_MD_twins_56 : decode b_MD_twins 56 = .ok (.if_icmp .ne 7, 3) := by decide +kernel
theorem d_MD_twins_59 : decode b_MD_twins 59 = .ok (.iconst 1, 1) := by decide +kernel
theorem d_MD_twins_60 : decode b_MD_twins 60 = .ok (.goto 4, 3) := by decide +kernel
theorem d_MD_twins_63 : decode b_MD_twins 63 = .ok (.iconst 0, 1) := by decide +kernel
theorem d_MD_twins_64 : decode b_MD_twins 64 = .ok (.istore_n 3, 1) := by decide +kernel
theorem d_MD_twins_65 : decode b_MD_twins 65 = .ok (.iinc 4 1, 3) := by decide +kernel
theorem d_MD_twins_68 : decode b_MD_twins 68 = .ok (.goto (-44), 3) := by decide +kernel
theorem d_MD_twins_71 : decode b_MD_twins 71 = .ok (.iconst 0, 1) := by decide +kernel
theorem d_MD_twins_72 : decode b_MD_twins 72 = .ok (.istore 4, 2) := by decide +kernel
theorem d_MD_twins_74 : decode b_MD_twins 74 = .ok (.iload 4, 2) := by decide +kernel
theorem d_MD_twins_76 : decode b_MD_twins 76 = .ok (.aload_n 0, 1) := by decide +kernel
theorem d_MD_twins_77 : decode b_MD_twins 77 = .ok (.getfield 73, 3) := by decide +kernel
theorem d_MD_twins_80 : decode b_MD_twins 80 = .ok (.if_icmp .ge 46, 3) := by decide +kernel
theorem d_MD_twins_83 : decode b_MD_twins 83 = .ok (.iload_n 3, 1) := by decide +kernel
theorem d_MD_twins_84 : decode b_MD_twins 84 = .ok (.ifCond .eq 34, 3) := by decide +kernel
theorem d_MD_twins_87 : decode b_MD_twins 87 = .ok (.aload_n 0, 1) := by decide +kernel
theorem d_MD_twins_88 : decode b_MD_twins 88 = .ok (.getfield 40, 3) := by decide +kernel
theorem d_MD_twins_91 : decode b_MD_twins 91 = .ok (.bipush 7, 2) := by decide +kernel
theorem d_MD_twins_93 : decode b_MD_twins 93 = .ok (.iload_n 1, 1) := by decide +kernel
theorem d_MD_twins_94 : decode b_MD_twins 94 = .ok (.imul, 1) := by decide +kernel
theorem d_MD_twins_95 : decode b_MD_twins 95 = .ok (.iload 4, 2) := by decide +kernel
theorem d_MD_twins_97 : decode b_MD_twins 97 = .ok (.iadd, 1) := by decide +kernel
theorem d_MD_twins_98 : decode b_MD_twins 98 = .ok (.iaload, 1) := by decide +kernel
theorem d_MD_twins_99 : decode b_MD_twins 99 = .ok (.aload_n 0, 1) := by decide +kernel
theorem d_MD_twins_100 : decode b_MD_twins 100 = .ok (.getfield 40, 3) := by decide +kernel
theorem d_MD_twins_103 : decode b_MD_twins 103 = .ok (.bipush 7, 2) := by decide +kernel
theorem d_MD_twins_105 : decode b_MD_twins 105 = .ok (.iload_n 2, 1) := by decide +kernel
theorem d_MD_twins_106 : decode b_MD_twins 106 = .ok (.imul, 1) := by decide +kernel
theorem d_MD_twins_107 : decode b_MD_twins 107 = .ok (.iload 4, 2) := by decide +kernel
theorem d_MD_twins_109 : decode b_MD_twins 109 = .ok (.iadd, 1) := by decide +kernel
theorem d_MD_twins_110 : decode b_MD_twins 110 = .ok (.iaload, 1) := by decide +kernel
theorem d_MD_twins_111 : decode b_MD_twins 111 = .ok (.if_icmp .ne 7, 3) := by decide +kernel
theorem d_MD_twins_114 : decode b_MD_twins 114 = .ok (.iconst 1, 1) := by decide +kernel
theorem d_MD_twins_115 : decode b_MD_twins 115 = .ok (.goto 4, 3) := by decide +kernel
theorem d_MD_twins_118 : decode b_MD_twins 118 = .ok (.iconst 0, 1) := by decide +kernel
theorem d_MD_twins_119 : decode b_MD_twins 119 = .ok (.istore_n 3, 1) := by decide +kernel
theorem d_MD_twins_120 : decode b_MD_twins 120 = .ok (.iinc 4 1, 3) := by decide +kernel
theorem d_MD_twins_123 : decode b_MD_twins 123 = .ok (.goto (-49), 3) := by decide +kernel
theorem d_MD_twins_126 : decode b_MD_twins 126 = .ok (.iload_n 3, 1) := by decide +kernel
theorem d_MD_twins_127 : decode b_MD_twins 127 = .ok (.ireturn, 1) := by decide +kernel
theorem d_MD_solo_0 : decode b_MD_solo 0 = .ok (.iload_n 1, 1) := by decide +kernel
theorem d_MD_solo_1 : decode b_MD_solo 1 = .ok (.invokestatic 87, 3) := by decide +kernel
theorem d_MD_solo_4 : decode b_MD_solo 4 = .ok (.ifCond .eq 15, 3) := by decide +kernel
theorem d_MD_solo_7 : decode b_MD_solo 7 = .ok (.aload_n 0, 1) := by decide +kernel
theorem d_MD_solo_8 : decode b_MD_solo 8 = .ok (.getfield 37, 3) := by decide +kernel
theorem d_MD_solo_11 : decode b_MD_solo 11 = .ok (.bipush 28, 2) := by decide +kernel
theorem d_MD_solo_13 : decode b_MD_solo 13 = .ok (.iload_n 1, 1) := by decide +kernel
theorem d_MD_solo_14 : decode b_MD_solo 14 = .ok (.iadd, 1) := by decide +kernel
theorem d_MD_solo_15 : decode b_MD_solo 15 = .ok (.iaload, 1) := by decide +kernel
theorem d_MD_solo_16 : decode b_MD_solo 16 = .ok (.goto 4, 3) := by decide +kernel
theorem d_MD_solo_19 : decode b_MD_solo 19 = .ok (.iconst 0, 1) := by decide +kernel
theorem d_MD_solo_20 : decode b_MD_solo 20 = .ok (.ireturn, 1) := by decide +kernel
end
section
/-! truth values as ints, and the small functions of both classes -/
def qb (b : Bool) : Int32 := if b = true then 1 else 0
theorem qb_e0 {b : Bool} (h : qb b = 0) : b = false := by
  cases b with
  | false => rfl
  | true => exact absurd h (by decide)
theorem qb_n0 {b : Bool} (h : ¬ qb b = 0) : b = true := by
  cases b with
  | true => rfl
  | false => exact absurd rfl h
theorem qb_nar (b : Bool) : narrow .boolean (.int (qb b)) = .int (qb b) := by cases b <;> rfl
theorem qb_0 {b : Bool} (h : b = false) : (0 : Int32) = qb b := by rw [h]; rfl
theorem qb_1 {b : Bool} (h : b = true) : (1 : Int32) = qb b := by rw [h]; rfl
theorem qb_t {b : Bool} (h : b = true) : qb b = 1 := by rw [h]; rfl
theorem qb_f {b : Bool} (h : b = false) : qb b = 0 := by rw [h]; rfl
/-- lo ≤ z ≤ hi -/
def qm_wi (z lo hi : Int32) : Bool := decide (lo ≤ z) && decide (z ≤ hi)
/-- bit k of the set x -/
def qm_in (x k : Int32) : Bool := !decide ((x >>> (k &&& 31)) &&& 1 = 0)
theorem qm_wi_t {z lo hi : Int32} (h1 : lo ≤ z) (h2 : z ≤ hi) : qm_wi z lo hi = true := by simp [qm_wi, h1, h2]
theorem qm_wi_f1 {z lo hi : Int32} (h1 : ¬ lo ≤ z) : qm_wi z lo hi = false := by simp [qm_wi, h1]
theorem qm_wi_f2 {z lo hi : Int32} (h2 : ¬ z ≤ hi) : qm_wi z lo hi = false := by simp [qm_wi, h2]
theorem qm_nle {a b : Int32} (h : a < b) : ¬ b ≤ a := by
  rw [Int32.lt_iff_toInt_lt] at h
  rw [Int32.le_iff_toInt_le]
  omega
theorem qm_nlt {a b : Int32} (h : ¬ a < b) : b ≤ a := by
  rw [Int32.lt_iff_toInt_lt] at h
  rw [Int32.le_iff_toInt_le]
  omega
theorem qm_lt {a b : Int32} (h : ¬ b ≤ a) : a < b := by
  rw [Int32.lt_iff_toInt_lt]
  rw [Int32.le_iff_toInt_le] at h
  omega
/-- a node's number, and an int that is none -/
theorem qm_wi_n {z : Int32} {n : Nat} (hn : n < 2 ^ 31) (h0 : 0 < n) (h : qm_wi z 0 (nI n - 1) = true) : ∃ j, j < n ∧ z = nI j := by
  simp only [qm_wi, Bool.and_eq_true, decide_eq_true_eq] at h
  obtain ⟨h1, h2⟩ := h
  have e : nI n - 1 = nI (n - 1) := by
    obtain ⟨k, rfl⟩ : ∃ k, n = k + 1 := ⟨n - 1, by omega⟩
    rw [nI_pred]; rfl
  rw [e] at h2
  obtain ⟨j, hj, rfl⟩ := nI_of (x := z) (fun h => qm_nle h h1)
  rw [nI_leI hj (by omega)] at h2
  exact ⟨j, by omega, rfl⟩
theorem qm_wi_j {j n : Nat} (hn : n < 2 ^ 31) (h : j < n) : qm_wi (nI j) 0 (nI n - 1) = true := by
  have e : nI n - 1 = nI (n - 1) := by
    obtain ⟨k, rfl⟩ : ∃ k, n = k + 1 := ⟨n - 1, by omega⟩
    rw [nI_pred]; rfl
  rw [e]
  exact qm_wi_t (nI_pos' (by omega)) (nI_le (by omega) (by omega))
/-- what a node says, by its kind: v to a node, in a frame -/
def qm_says (kd x v to fr : Int32) : Int32 :=
  if kd = 2 then x else if kd = 3 then (if to - to / 2 * 2 = 0 then v else v + x) else if kd = 4 then v + x * (to + 1) else if kd = 5 then (if fr - fr / 2 * 2 = 0 then v else x) else v
/-- Integer.bitCount, as the library reckons it -/
def qm_min (a b : Int32) : Int32 := if b < a then b else a
def qm_max (a b : Int32) : Int32 := if a < b then b else a
def qm_us (x k : Int32) : Int32 := (x.toUInt32 >>> (k.toUInt32 &&& Int32.toUInt32 31)).toInt32
def qm_b1 (x : Int32) : Int32 := x - (qm_us x 1 &&& 1431655765)
def qm_b2 (x : Int32) : Int32 := (x &&& 858993459) + (qm_us x 2 &&& 858993459)
def qm_b3 (x : Int32) : Int32 := (x + qm_us x 4) &&& 252645135
def qm_b4 (x : Int32) : Int32 := x + qm_us x 8
def qm_b5 (x : Int32) : Int32 := x + qm_us x 16
/-- Integer.bitCount -/
def qm_bc (x : Int32) : Int32 := qm_b5 (qm_b4 (qm_b3 (qm_b2 (qm_b1 x)))) &&& 63
/-- Math.floorDiv -/
def qm_fd (a b : Int32) : Int32 := if 0 ≤ a ^^^ b then a / b else if a / b * b = a then a / b else a / b - 1
theorem qa_fitR {lv LV maxL : Nat} (h : lv < LV) (h2 : maxL ≤ 45) : qa_fit (qa_R LV) 0 0 lv maxL := by
  refine ⟨?_, ?_, Nat.le_refl _, Nat.le_refl _⟩
  · show lv + 1 ≤ LV
    omega
  · show 8 + (maxL + 11) + 64 * lv ≤ 64 * LV
    omega
end
section
set_option maxHeartbeats 4000000 in
set_option maxRecDepth 100000 in
theorem c_JM_min (l : Launch) (a b : Int32) : qa_Pu l y_JM_min b_JM_min 2 (some .int) 0 [.int a, .int b] (fun _ => True) (qm_min a b) := by
  refine qa_ofPu (by decide +kernel) (Nat.le_of_ble_eq_true rfl) ?_
  intro p e s m below meth c ls F hr hlocks _ hl
  have hx := F.1
  have hb := F.2.1
  have hown : s.vm.findClass "java/lang/Math" = some m.cls := F.2.2.2.1
  have hts := F.2.2.2.2
  have hl : lv_has ls 2 [(0, .int a), (1, .int b)] := hl
  refine lv_iload_n hx hb d_JM_min_0 rfl (lv_at hl 0 rfl) ?_
  refine lv_iload_n hx hb d_JM_min_1 rfl (lv_at hl 1 rfl) ?_
  refine lv_icmp_gt hx hb d_JM_min_2 rfl (fun h2 => ?_) (fun h2 => ?_)
  · refine lv_iload_n hx hb d_JM_min_9 rfl (lv_at hl 1 rfl) ?_
    exact qa_iret hx hb hr hlocks (by simp only [qm_min]; first | rw [if_pos h2] | rw [if_neg h2]) d_JM_min_10
  · refine lv_iload_n hx hb d_JM_min_5 rfl (lv_at hl 0 rfl) ?_
    refine lv_goto hx hb d_JM_min_6 rfl ?_
    exact qa_iret hx hb hr hlocks (by simp only [qm_min]; first | rw [if_pos h2] | rw [if_neg h2]) d_JM_min_10

set_option maxHeartbeats 4000000 in
set_option maxRecDepth 100000 in
theorem c_JM_max (l : Launch) (a b : Int32) : qa_Pu l y_JM_max b_JM_max 2 (some .int) 0 [.int a, .int b] (fun _ => True) (qm_max a b) := by
  refine qa_ofPu (by decide +kernel) (Nat.le_of_ble_eq_true rfl) ?_
  intro p e s m below meth c ls F hr hlocks _ hl
  have hx := F.1
  have hb := F.2.1
  have hown : s.vm.findClass "java/lang/Math" = some m.cls := F.2.2.2.1
  have hts := F.2.2.2.2
  have hl : lv_has ls 2 [(0, .int a), (1, .int b)] := hl
  refine lv_iload_n hx hb d_JM_max_0 rfl (lv_at hl 0 rfl) ?_
  refine lv_iload_n hx hb d_JM_max_1 rfl (lv_at hl 1 rfl) ?_
  refine lv_icmp_lt hx hb d_JM_max_2 rfl (fun h2 => ?_) (fun h2 => ?_)
  · refine lv_iload_n hx hb d_JM_max_9 rfl (lv_at hl 1 rfl) ?_
    exact qa_iret hx hb hr hlocks (by simp only [qm_max]; first | rw [if_pos h2] | rw [if_neg h2]) d_JM_max_10
  · refine lv_iload_n hx hb d_JM_max_5 rfl (lv_at hl 0 rfl) ?_
    refine lv_goto hx hb d_JM_max_6 rfl ?_
    exact qa_iret hx hb hr hlocks (by simp only [qm_max]; first | rw [if_pos h2] | rw [if_neg h2]) d_JM_max_10

set_option maxHeartbeats 4000000 in
set_option maxRecDepth 100000 in
theorem c_JM_floorDiv (l : Launch) (a b : Int32) (hb0 : ¬ b = 0) : qa_Pu l y_JM_floorDiv b_JM_floorDiv 3 (some .int) 0 [.int a, .int b] (fun _ => True) (qm_fd a b) := by
  refine qa_ofPu (by decide +kernel) (Nat.le_of_ble_eq_true rfl) ?_
  intro p e s m below meth c ls F hr hlocks _ hl
  have hx := F.1
  have hb := F.2.1
  have hown : s.vm.findClass "java/lang/Math" = some m.cls := F.2.2.2.1
  have hts := F.2.2.2.2
  have hl : lv_has ls 3 [(0, .int a), (1, .int b)] := hl
  refine lv_iload_n hx hb d_JM_floorDiv_0 rfl (lv_at hl 0 rfl) ?_
  refine lv_iload_n hx hb d_JM_floorDiv_1 rfl (lv_at hl 1 rfl) ?_
  refine lv_idiv hx hb d_JM_floorDiv_2 hb0 ?_
  refine lv_istore_n hx hb d_JM_floorDiv_3 rfl hl (by decide) rfl (fun ls hl => ?_)
  have hl : lv_has ls 3 [(2, .int (a / b)), (0, .int a), (1, .int b)] := hl
  refine lv_iload_n hx hb d_JM_floorDiv_4 rfl (lv_at hl 1 rfl) ?_
  refine lv_iload_n hx hb d_JM_floorDiv_5 rfl (lv_at hl 2 rfl) ?_
  refine lv_ixor hx hb d_JM_floorDiv_6 ?_
  refine lv_if_ge hx hb d_JM_floorDiv_7 rfl (fun h7 => ?_) (fun h7 => ?_)
  · refine lv_iload_n hx hb d_JM_floorDiv_21 rfl (lv_at hl 0 rfl) ?_
    exact qa_iret hx hb hr hlocks (by simp only [qm_fd]; first | rw [if_pos h7] | rw [if_neg h7, if_pos h14] | rw [if_neg h7, if_neg h14]) d_JM_floorDiv_22
  · refine lv_iload_n hx hb d_JM_floorDiv_10 rfl (lv_at hl 0 rfl) ?_
    refine lv_iload_n hx hb d_JM_floorDiv_11 rfl (lv_at hl 2 rfl) ?_
    refine lv_imul hx hb d_JM_floorDiv_12 ?_
    refine lv_iload_n hx hb d_JM_floorDiv_13 rfl (lv_at hl 1 rfl) ?_
    refine lv_icmp_eq hx hb d_JM_floorDiv_14 rfl (fun h14 => ?_) (fun h14 => ?_)
    · refine lv_iload_n hx hb d_JM_floorDiv_21 rfl (lv_at hl 0 rfl) ?_
      exact qa_iret hx hb hr hlocks (by simp only [qm_fd]; first | rw [if_pos h7] | rw [if_neg h7, if_pos h14] | rw [if_neg h7, if_neg h14]) d_JM_floorDiv_22
    · refine lv_iload_n hx hb d_JM_floorDiv_17 rfl (lv_at hl 0 rfl) ?_
      refine lv_iconst (v := 1) hx hb d_JM_floorDiv_18 (by decide) ?_
      refine lv_isub hx hb d_JM_floorDiv_19 ?_
      exact qa_iret hx hb hr hlocks (by simp only [qm_fd]; first | rw [if_pos h7] | rw [if_neg h7, if_pos h14] | rw [if_neg h7, if_neg h14]) d_JM_floorDiv_20

set_option maxHeartbeats 4000000 in
set_option maxRecDepth 100000 in
theorem c_JI_bitCount (l : Launch) (x : Int32) : qa_Pu l y_JI_bitCount b_JI_bitCount 1 (some .int) 0 [.int x] (fun _ => True) (qm_bc x) := by
  refine qa_ofPu (plainFor_of_name (by decide)) (Nat.le_of_ble_eq_true rfl) ?_
  intro p e s m below meth c ls F hr hlocks _ hl
  have hx := F.1
  have hb := F.2.1
  have hown : s.vm.findClass "java/lang/Integer" = some m.cls := F.2.2.2.1
  have hts := F.2.2.2.2
  have hl : lv_has ls 1 [(0, .int x)] := hl
  refine lv_iload_n hx hb d_JI_bitCount_0 rfl (lv_at hl 0 rfl) ?_
  refine lv_iload_n hx hb d_JI_bitCount_1 rfl (lv_at hl 0 rfl) ?_
  refine lv_iconst (v := 1) hx hb d_JI_bitCount_2 (by decide) ?_
  refine lv_iushr (v := qm_us x 1) hx hb d_JI_bitCount_3 rfl ?_
  refine lv_ldcw (v := 1431655765) hx hb hown (hts _ k_JI_265) d_JI_bitCount_4 ?_
  refine lv_iand hx hb d_JI_bitCount_7 ?_
  refine lv_isub hx hb d_JI_bitCount_8 ?_
  refine W.eq (g2 := F0 m 9 ls [.int (qm_b1 x)]) rfl ?_
  refine lv_istore_n hx hb d_JI_bitCount_9 rfl hl (by decide) rfl (fun ls hl => ?_)
  have hl : lv_has ls 1 [(0, .int (qm_b1 x))] := hl
  refine lv_iload_n hx hb d_JI_bitCount_10 rfl (lv_at hl 0 rfl) ?_
  refine lv_ldcw (v := 858993459) hx hb hown (hts _ k_JI_266) d_JI_bitCount_11 ?_
  refine lv_iand hx hb d_JI_bitCount_14 ?_
  refine lv_iload_n hx hb d_JI_bitCount_15 rfl (lv_at hl 0 rfl) ?_
  refine lv_iconst (v := 2) hx hb d_JI_bitCount_16 (by decide) ?_
  refine lv_iushr (v := qm_us (qm_b1 x) 2) hx hb d_JI_bitCount_17 rfl ?_
  refine lv_ldcw (v := 858993459) hx hb hown (hts _ k_JI_266) d_JI_bitCount_18 ?_
  refine lv_iand hx hb d_JI_bitCount_21 ?_
  refine lv_iadd hx hb d_JI_bitCount_22 ?_
  refine W.eq (g2 := F0 m 23 ls [.int (qm_b2 (qm_b1 x))]) rfl ?_
  refine lv_istore_n hx hb d_JI_bitCount_23 rfl hl (by decide) rfl (fun ls hl => ?_)
  have hl : lv_has ls 1 [(0, .int (qm_b2 (qm_b1 x)))] := hl
  refine lv_iload_n hx hb d_JI_bitCount_24 rfl (lv_at hl 0 rfl) ?_
  refine lv_iload_n hx hb d_JI_bitCount_25 rfl (lv_at hl 0 rfl) ?_
  refine lv_iconst (v := 4) hx hb d_JI_bitCount_26 (by decide) ?_
  refine lv_iushr (v := qm_us (qm_b2 (qm_b1 x)) 4) hx hb d_JI_bitCount_27 rfl ?_
  refine lv_iadd hx hb d_JI_bitCount_28 ?_
  refine lv_ldcw (v := 252645135) hx hb hown (hts _ k_JI_267) d_JI_bitCount_29 ?_
  refine lv_iand hx hb d_JI_bitCount_32 ?_
  refine W.eq (g2 := F0 m 33 ls [.int (qm_b3 (qm_b2 (qm_b1 x)))]) rfl ?_
  refine lv_istore_n hx hb d_JI_bitCount_33 rfl hl (by decide) rfl (fun ls hl => ?_)
  have hl : lv_has ls 1 [(0, .int (qm_b3 (qm_b2 (qm_b1 x))))] := hl
  refine lv_iload_n hx hb d_JI_bitCount_34 rfl (lv_at hl 0 rfl) ?_
  refine lv_iload_n hx hb d_JI_bitCount_35 rfl (lv_at hl 0 rfl) ?_
  refine lv_bipush (v := 8) hx hb d_JI_bitCount_36 (by decide) ?_
  refine lv_iushr (v := qm_us (qm_b3 (qm_b2 (qm_b1 x))) 8) hx hb d_JI_bitCount_38 rfl ?_
  refine lv_iadd hx hb d_JI_bitCount_39 ?_
  refine W.eq (g2 := F0 m 40 ls [.int (qm_b4 (qm_b3 (qm_b2 (qm_b1 x))))]) rfl ?_
  refine lv_istore_n hx hb d_JI_bitCount_40 rfl hl (by decide) rfl (fun ls hl => ?_)
  have hl : lv_has ls 1 [(0, .int (qm_b4 (qm_b3 (qm_b2 (qm_b1 x)))))] := hl
  refine lv_iload_n hx hb d_JI_bitCount_41 rfl (lv_at hl 0 rfl) ?_
  refine lv_iload_n hx hb d_JI_bitCount_42 rfl (lv_at hl 0 rfl) ?_
  refine lv_bipush (v := 16) hx hb d_JI_bitCount_43 (by decide) ?_
  refine lv_iushr (v := qm_us (qm_b4 (qm_b3 (qm_b2 (qm_b1 x)))) 16) hx hb d_JI_bitCount_45 rfl ?_
  refine lv_iadd hx hb d_JI_bitCount_46 ?_
  refine W.eq (g2 := F0 m 47 ls [.int (qm_b5 (qm_b4 (qm_b3 (qm_b2 (qm_b1 x)))))]) rfl ?_
  refine lv_istore_n hx hb d_JI_bitCount_47 rfl hl (by decide) rfl (fun ls hl => ?_)
  have hl : lv_has ls 1 [(0, .int (qm_b5 (qm_b4 (qm_b3 (qm_b2 (qm_b1 x))))))] := hl
  refine lv_iload_n hx hb d_JI_bitCount_48 rfl (lv_at hl 0 rfl) ?_
  refine lv_bipush (v := 63) hx hb d_JI_bitCount_49 (by decide) ?_
  refine lv_iand hx hb d_JI_bitCount_51 ?_
  exact qa_iret hx hb hr hlocks rfl d_JI_bitCount_52

set_option maxHeartbeats 4000000 in
set_option maxRecDepth 100000 in
theorem c_VF_within (l : Launch) (z lo hi : Int32) : qa_Pu l y_VF_within b_VF_within 3 (some .boolean) 0 [.int z, .int lo, .int hi] (fun _ => True) (qb (qm_wi z lo hi)) := by
  refine qa_ofPu (plainFor_of_name (by decide)) (Nat.le_of_ble_eq_true rfl) ?_
  intro p e s m below meth c ls F hr hlocks _ hl
  have hx := F.1
  have hb := F.2.1
  have hown : s.vm.findClass "VotedFrames" = some m.cls := F.2.2.2.1
  have hts := F.2.2.2.2
  have hl : lv_has ls 3 [(0, .int z), (1, .int lo), (2, .int hi)] := hl
  refine lv_iload_n hx hb d_VF_within_0 rfl (lv_at hl 1 rfl) ?_
  refine lv_iload_n hx hb d_VF_within_1 rfl (lv_at hl 0 rfl) ?_
  refine lv_icmp_gt hx hb d_VF_within_2 rfl (fun h2 => ?_) (fun h2 => ?_)
  · refine lv_iconst (v := 0) hx hb d_VF_within_14 (by decide) ?_
    exact qa_zret hx hb hr hlocks (by first | exact qb_0 (qm_wi_f1 (qm_nle h2)) | exact qb_0 (qm_wi_f2 (qm_nle h7)) | exact qb_1 (qm_wi_t (qm_nlt h2) (qm_nlt h7))) rfl d_VF_within_15
  · refine lv_iload_n hx hb d_VF_within_5 rfl (lv_at hl 0 rfl) ?_
    refine lv_iload_n hx hb d_VF_within_6 rfl (lv_at hl 2 rfl) ?_
    refine lv_icmp_gt hx hb d_VF_within_7 rfl (fun h7 => ?_) (fun h7 => ?_)
    · refine lv_iconst (v := 0) hx hb d_VF_within_14 (by decide) ?_
      exact qa_zret hx hb hr hlocks (by first | exact qb_0 (qm_wi_f1 (qm_nle h2)) | exact qb_0 (qm_wi_f2 (qm_nle h7)) | exact qb_1 (qm_wi_t (qm_nlt h2) (qm_nlt h7))) rfl d_VF_within_15
    · refine lv_iconst (v := 1) hx hb d_VF_within_10 (by decide) ?_
      refine lv_goto hx hb d_VF_within_11 rfl ?_
      exact qa_zret hx hb hr hlocks (by first | exact qb_0 (qm_wi_f1 (qm_nle h2)) | exact qb_0 (qm_wi_f2 (qm_nle h7)) | exact qb_1 (qm_wi_t (qm_nlt h2) (qm_nlt h7))) rfl d_VF_within_15

set_option maxHeartbeats 4000000 in
set_option maxRecDepth 100000 in
theorem c_VF_isAtMost (l : Launch) (z b : Int32) : qa_Pu l y_VF_isAtMost b_VF_isAtMost 2 (some .boolean) 1 [.int z, .int b] (fun _ => True) (qb (qm_wi z (-b) b)) := by
  refine qa_ofPu (plainFor_of_name (by decide)) (Nat.le_of_ble_eq_true rfl) ?_
  intro p e s m below meth c ls F hr hlocks _ hl
  have hx := F.1
  have hb := F.2.1
  have hown : s.vm.findClass "VotedFrames" = some m.cls := F.2.2.2.1
  have hts := F.2.2.2.2
  have hl : lv_has ls 2 [(0, .int z), (1, .int b)] := hl
  refine lv_iload_n hx hb d_VF_isAtMost_0 rfl (lv_at hl 0 rfl) ?_
  refine lv_iload_n hx hb d_VF_isAtMost_1 rfl (lv_at hl 1 rfl) ?_
  refine lv_ineg hx hb d_VF_isAtMost_2 ?_
  refine lv_iload_n hx hb d_VF_isAtMost_3 rfl (lv_at hl 1 rfl) ?_
  refine qa_pT (As := [.int z, .int (-b), .int b]) F (c_VF_within l z (-b) b) k_VF_17 (qa_fitR (by decide) (by decide)) rfl hl.1 rfl (Nat.le_of_ble_eq_true rfl) d_VF_isAtMost_4 ?_
  exact qa_zret hx hb hr hlocks rfl (qb_nar _) d_VF_isAtMost_7

set_option maxHeartbeats 4000000 in
set_option maxRecDepth 100000 in
theorem c_VF_clamp (l : Launch) (z lo hi : Int32) : qa_Pu l y_VF_clamp b_VF_clamp 3 (some .int) 1 [.int z, .int lo, .int hi] (fun _ => True) (qm_max lo (qm_min hi z)) := by
  refine qa_ofPu (plainFor_of_name (by decide)) (Nat.le_of_ble_eq_true rfl) ?_
  intro p e s m below meth c ls F hr hlocks _ hl
  have hx := F.1
  have hb := F.2.1
  have hown : s.vm.findClass "VotedFrames" = some m.cls := F.2.2.2.1
  have hts := F.2.2.2.2
  have hl : lv_has ls 3 [(0, .int z), (1, .int lo), (2, .int hi)] := hl
  refine lv_iload_n hx hb d_VF_clamp_0 rfl (lv_at hl 1 rfl) ?_
  refine lv_iload_n hx hb d_VF_clamp_1 rfl (lv_at hl 2 rfl) ?_
  refine lv_iload_n hx hb d_VF_clamp_2 rfl (lv_at hl 0 rfl) ?_
  refine qa_pT (As := [.int hi, .int z]) F (c_JM_min l hi z) k_VF_155 (qa_fitR (by decide) (by decide)) rfl hl.1 rfl (Nat.le_of_ble_eq_true rfl) d_VF_clamp_3 ?_
  refine qa_pT (As := [.int lo, .int (qm_min hi z)]) F (c_JM_max l lo (qm_min hi z)) k_VF_161 (qa_fitR (by decide) (by decide)) rfl hl.1 rfl (Nat.le_of_ble_eq_true rfl) d_VF_clamp_6 ?_
  exact qa_iret hx hb hr hlocks rfl d_VF_clamp_9

set_option maxHeartbeats 4000000 in
set_option maxRecDepth 100000 in
theorem c_VF_contains (l : Launch) (z k : Int32) : qa_Pu l y_VF_contains b_VF_contains 2 (some .boolean) 0 [.int z, .int k] (fun _ => True) (qb (qm_in z k)) := by
  refine qa_ofPu (plainFor_of_name (by decide)) (Nat.le_of_ble_eq_true rfl) ?_
  intro p e s m below meth c ls F hr hlocks _ hl
  have hx := F.1
  have hb := F.2.1
  have hown : s.vm.findClass "VotedFrames" = some m.cls := F.2.2.2.1
  have hts := F.2.2.2.2
  have hl : lv_has ls 2 [(0, .int z), (1, .int k)] := hl
  refine lv_iload_n hx hb d_VF_contains_0 rfl (lv_at hl 0 rfl) ?_
  refine lv_iload_n hx hb d_VF_contains_1 rfl (lv_at hl 1 rfl) ?_
  refine lv_ishr hx hb d_VF_contains_2 ?_
  refine lv_iconst (v := 1) hx hb d_VF_contains_3 (by decide) ?_
  refine lv_iand hx hb d_VF_contains_4 ?_
  refine lv_if_eq hx hb d_VF_contains_5 rfl (fun h5 => ?_) (fun h5 => ?_)
  · refine lv_iconst (v := 0) hx hb d_VF_contains_12 (by decide) ?_
    exact qa_zret hx hb hr hlocks (by simp only [qm_in]; first | (rw [decide_eq_true h5]; rfl) | (rw [decide_eq_false h5]; rfl)) rfl d_VF_contains_13
  · refine lv_iconst (v := 1) hx hb d_VF_contains_8 (by decide) ?_
    refine lv_goto hx hb d_VF_contains_9 rfl ?_
    exact qa_zret hx hb hr hlocks (by simp only [qm_in]; first | (rw [decide_eq_true h5]; rfl) | (rw [decide_eq_false h5]; rfl)) rfl d_VF_contains_13

set_option maxHeartbeats 4000000 in
set_option maxRecDepth 100000 in
theorem c_VF_isTask (l : Launch) (z : Int32) : qa_Pu l y_VF_isTask b_VF_isTask 1 (some .boolean) 1 [.int z] (fun _ => True) (qb (qm_wi z 0 3)) := by
  refine qa_ofPu (plainFor_of_name (by decide)) (Nat.le_of_ble_eq_true rfl) ?_
  intro p e s m below meth c ls F hr hlocks _ hl
  have hx := F.1
  have hb := F.2.1
  have hown : s.vm.findClass "VotedFrames" = some m.cls := F.2.2.2.1
  have hts := F.2.2.2.2
  have hl : lv_has ls 1 [(0, .int z)] := hl
  refine lv_iload_n hx hb d_VF_isTask_0 rfl (lv_at hl 0 rfl) ?_
  refine lv_iconst (v := 0) hx hb d_VF_isTask_1 (by decide) ?_
  refine lv_iconst (v := 3) hx hb d_VF_isTask_2 (by decide) ?_
  refine qa_pT (As := [.int z, .int 0, .int 3]) F (c_VF_within l z 0 3) k_VF_17 (qa_fitR (by decide) (by decide)) rfl hl.1 rfl (Nat.le_of_ble_eq_true rfl) d_VF_isTask_3 ?_
  exact qa_zret hx hb hr hlocks rfl (qb_nar _) d_VF_isTask_6
end
section
theorem qm_ti {x z : Int32} {n : Int} (hz : z.toInt = n) (h : x.toInt = n) : x = z := Int32.toInt_inj.mp (h.trans hz.symm)
theorem qm_sw25 (x : Int32) : x = 2 ∨ x = 3 ∨ x = 4 ∨ x = 5 ∨ (x.toInt < 2 ∨ 5 < x.toInt) := by
  by_cases h : x.toInt < 2 ∨ 5 < x.toInt
  · exact Or.inr (Or.inr (Or.inr (Or.inr h)))
  · rcases (show x.toInt = 2 ∨ x.toInt = 3 ∨ x.toInt = 4 ∨ x.toInt = 5 by omega) with e | e | e | e
    · exact Or.inl (qm_ti (by decide) e)
    · exact Or.inr (Or.inl (qm_ti (by decide) e))
    · exact Or.inr (Or.inr (Or.inl (qm_ti (by decide) e)))
    · exact Or.inr (Or.inr (Or.inr (Or.inl (qm_ti (by decide) e))))
theorem qm_sw36 (x : Int32) : x = 3 ∨ x = 4 ∨ x = 5 ∨ x = 6 ∨ (x.toInt < 3 ∨ 6 < x.toInt) := by
  by_cases h : x.toInt < 3 ∨ 6 < x.toInt
  · exact Or.inr (Or.inr (Or.inr (Or.inr h)))
  · rcases (show x.toInt = 3 ∨ x.toInt = 4 ∨ x.toInt = 5 ∨ x.toInt = 6 by omega) with e | e | e | e
    · exact Or.inl (qm_ti (by decide) e)
    · exact Or.inr (Or.inl (qm_ti (by decide) e))
    · exact Or.inr (Or.inr (Or.inl (qm_ti (by decide) e)))
    · exact Or.inr (Or.inr (Or.inr (Or.inl (qm_ti (by decide) e))))
theorem qm_ne_ti {x z : Int32} {n : Int} (hz : z.toInt = n) (h : ¬ x = z) : ¬ x.toInt = n := fun q => h (qm_ti hz q)
theorem qm_out_ne {x : Int32} {lo hi : Int} (h : x.toInt < lo ∨ hi < x.toInt) {z : Int32} (h1 : lo ≤ z.toInt) (h2 : z.toInt ≤ hi) : ¬ x = z := by
  rintro rfl
  omega
theorem qm_div3 : ¬ (3 : Int32) = 0 := by decide
theorem qm_div2 : ¬ (2 : Int32) = 0 := by decide
/-- what a node shows as its clock -/
def qm_shows (kd x t to : Int32) : Int32 := if kd = 5 then t else qm_says kd x t to 0
/-- how many of the first k nodes, members of i and not j, charge j with i -/
def qm_acc (v : qa_M) (i j : Nat) : Nat → Nat
  | 0 => 0
  | k + 1 => if k ≠ j ∧ qm_in (v 2 i 11) (nI k) = true ∧ qm_in (v 6 i k) (nI j) = true then qm_acc v i j k + 1 else qm_acc v i j k
end
section
set_option maxHeartbeats 4000000 in
set_option maxRecDepth 100000 in
theorem c_ND_memberCount (l : Launch) (y : qa_L) (v : qa_M) (i : Nat) (hi : i < qa_n y) : qa_Pu l y_ND_memberCount b_ND_memberCount 1 (some .int) 1 [.ref (qa_a y 2 i)] (qa_W y v) (qm_bc (v 2 i 11)) := by
  refine qa_ofPu (plainFor_of_name (by decide)) (Nat.le_of_ble_eq_true rfl) ?_
  intro p e s m below meth c ls F hr hlocks hW hl
  have E : qa_E p m c b_ND_memberCount 1 s _ "VotedFrames$Node" y := ⟨F, hW.2⟩
  have hC : qa_C y v s s.heap [] := ⟨hW.1, va_S.rf⟩
  have hx := F.1
  have hb := F.2.1
  have hown : s.vm.findClass "VotedFrames$Node" = some m.cls := F.2.2.2.1
  have hts := F.2.2.2.2
  have hn4 : 4 ≤ qa_n y := E.2.1.2.2.1
  have hn7 : qa_n y ≤ 7 := E.2.1.2.2.2.1
  have hl : lv_has ls 1 [(0, .ref (qa_a y 2 i))] := hl
  refine lv_aload_n hx hb d_ND_memberCount_0 rfl (lv_at hl 0 rfl) ?_
  refine qa_get (k := 2) (i := i) (f := 11) (val := .int (v 2 i 11)) E hC hi rfl rfl (by decide) f_ND_34 rfl rfl d_ND_memberCount_1 ?_
  refine qa_pT (As := [.int (v 2 i 11)]) F (c_JI_bitCount l (v 2 i 11)) k_ND_37 (qa_fitR (by decide) (by decide)) rfl hl.1 rfl (Nat.le_of_ble_eq_true rfl) d_ND_memberCount_4 ?_
  exact qa_iret hx hb hr hlocks rfl d_ND_memberCount_7

set_option maxHeartbeats 4000000 in
set_option maxRecDepth 100000 in
theorem c_ND_bearable (l : Launch) (y : qa_L) (v : qa_M) (i : Nat) (f : Int32) (hi : i < qa_n y) : qa_Pu l y_ND_bearable b_ND_bearable 2 (some .int) 2 [.ref (qa_a y 2 i), .int f] (qa_W y v) (qm_min f ((qm_bc (v 2 i 11) - 1) / 3)) := by
  refine qa_ofPu (plainFor_of_name (by decide)) (Nat.le_of_ble_eq_true rfl) ?_
  intro p e s m below meth c ls F hr hlocks hW hl
  have E : qa_E p m c b_ND_bearable 2 s _ "VotedFrames$Node" y := ⟨F, hW.2⟩
  have hC : qa_C y v s s.heap [] := ⟨hW.1, va_S.rf⟩
  have hx := F.1
  have hb := F.2.1
  have hown : s.vm.findClass "VotedFrames$Node" = some m.cls := F.2.2.2.1
  have hts := F.2.2.2.2
  have hn4 : 4 ≤ qa_n y := E.2.1.2.2.1
  have hn7 : qa_n y ≤ 7 := E.2.1.2.2.2.1
  have hl : lv_has ls 2 [(0, .ref (qa_a y 2 i)), (1, .int f)] := hl
  refine lv_iload_n hx hb d_ND_bearable_0 rfl (lv_at hl 1 rfl) ?_
  refine lv_aload_n hx hb d_ND_bearable_1 rfl (lv_at hl 0 rfl) ?_
  refine qa_pV (k := 2) (i := i) (As := []) E hC (c_ND_memberCount l y v i hi) hi rfl rfl k_ND_43 (qa_fitR (by decide) (by decide)) rfl hl.1 rfl (Nat.le_of_ble_eq_true rfl) d_ND_bearable_2 ?_
  refine lv_iconst (v := 1) hx hb d_ND_bearable_5 (by decide) ?_
  refine lv_isub hx hb d_ND_bearable_6 ?_
  refine lv_iconst (v := 3) hx hb d_ND_bearable_7 (by decide) ?_
  refine lv_idiv hx hb d_ND_bearable_8 qm_div3 ?_
  refine qa_pT (As := [.int f, .int (((qm_bc (v 2 i 11)) - 1) / 3)]) F (c_JM_min l f (((qm_bc (v 2 i 11)) - 1) / 3)) k_ND_47 (qa_fitR (by decide) (by decide)) rfl hl.1 rfl (Nat.le_of_ble_eq_true rfl) d_ND_bearable_9 ?_
  exact qa_iret hx hb hr hlocks rfl d_ND_bearable_12

set_option maxHeartbeats 4000000 in
set_option maxRecDepth 100000 in
theorem c_ND_canHear (l : Launch) (y : qa_L) (v : qa_M) (i j : Nat) (b : Int32) (hi : i < qa_n y) (hj : j < qa_n y) : qa_Pu l y_ND_canHear b_ND_canHear 3 (some .boolean) 2 [.ref (qa_a y 2 i), .ref (qa_a y 2 j), .int b] (qa_W y v) (qb (qm_in (v 2 i 11) (nI j) && (!decide (v 2 j 9 = 1) && qm_wi (v 2 i 6 - v 2 j 6 + v 3 i j) (-b) b))) := by
  refine qa_ofPu (plainFor_of_name (by decide)) (Nat.le_of_ble_eq_true rfl) ?_
  intro p e s m below meth c ls F hr hlocks hW hl
  have E : qa_E p m c b_ND_canHear 3 s _ "VotedFrames$Node" y := ⟨F, hW.2⟩
  have hC : qa_C y v s s.heap [] := ⟨hW.1, va_S.rf⟩
  have hx := F.1
  have hb := F.2.1
  have hown : s.vm.findClass "VotedFrames$Node" = some m.cls := F.2.2.2.1
  have hts := F.2.2.2.2
  have hn4 : 4 ≤ qa_n y := E.2.1.2.2.1
  have hn7 : qa_n y ≤ 7 := E.2.1.2.2.2.1
  have hl : lv_has ls 3 [(0, .ref (qa_a y 2 i)), (1, .ref (qa_a y 2 j)), (2, .int b)] := hl
  refine lv_aload_n hx hb d_ND_canHear_0 rfl (lv_at hl 0 rfl) ?_
  refine qa_get (k := 2) (i := i) (f := 11) (val := .int (v 2 i 11)) E hC hi rfl rfl (by decide) f_ND_34 rfl rfl d_ND_canHear_1 ?_
  refine lv_aload_n hx hb d_ND_canHear_4 rfl (lv_at hl 1 rfl) ?_
  refine qa_get (k := 2) (i := j) (f := 0) (val := .int (nI j)) E hC hj rfl rfl (by decide) f_ND_19 rfl rfl d_ND_canHear_5 ?_
  refine qa_pN (As := [.int (v 2 i 11), .int (nI j)]) E (c_VF_contains l (v 2 i 11) (nI j)) k_ND_53 (qa_fitR (by decide) (by decide)) rfl hl.1 rfl (Nat.le_of_ble_eq_true rfl) d_ND_canHear_8 ?_
  refine lv_if_eq hx hb d_ND_canHear_11 rfl (fun h11 => ?_) (fun h11 => ?_)
  · refine lv_iconst (v := 0) hx hb d_ND_canHear_22 (by decide) ?_
    exact qa_zret hx hb hr hlocks (by first | (rw [qb_e0 h11]; rfl) | (rw [qb_n0 h11, decide_eq_true (Classical.not_not.mp h19)]; rfl) | (rw [qb_n0 h11, decide_eq_false h19]; rfl) | (rw [qb_n0 h11, decide_eq_true h19]; rfl)) rfl d_ND_canHear_23
  · refine lv_aload_n hx hb d_ND_canHear_14 rfl (lv_at hl 1 rfl) ?_
    refine qa_get (k := 2) (i := j) (f := 9) (val := .int (v 2 j 9)) E hC hj rfl rfl (by decide) f_ND_15 rfl rfl d_ND_canHear_15 ?_
    refine lv_iconst (v := 1) hx hb d_ND_canHear_18 (by decide) ?_
    refine lv_icmp_ne hx hb d_ND_canHear_19 rfl (fun h19 => ?_) (fun h19 => ?_)
    · refine lv_aload_n hx hb d_ND_canHear_24 rfl (lv_at hl 0 rfl) ?_
      refine qa_get (k := 2) (i := i) (f := 6) (val := .int (v 2 i 6)) E hC hi rfl rfl (by decide) f_ND_57 rfl rfl d_ND_canHear_25 ?_
      refine lv_aload_n hx hb d_ND_canHear_28 rfl (lv_at hl 1 rfl) ?_
      refine qa_get (k := 2) (i := j) (f := 6) (val := .int (v 2 j 6)) E hC hj rfl rfl (by decide) f_ND_57 rfl rfl d_ND_canHear_29 ?_
      refine lv_isub hx hb d_ND_canHear_32 ?_
      refine lv_aload_n hx hb d_ND_canHear_33 rfl (lv_at hl 0 rfl) ?_
      refine qa_get (k := 2) (i := i) (f := 1) (val := .ref (qa_a y 3 i)) E hC hi rfl rfl (by decide) f_ND_22 rfl rfl d_ND_canHear_34 ?_
      refine lv_aload_n hx hb d_ND_canHear_37 rfl (lv_at hl 1 rfl) ?_
      refine qa_get (k := 2) (i := j) (f := 0) (val := .int (nI j)) E hC hj rfl rfl (by decide) f_ND_19 rfl rfl d_ND_canHear_38 ?_
      refine qa_ild (k := 3) (i := i) (j := j) E hC hi rfl rfl rfl hj d_ND_canHear_41 ?_
      refine lv_iadd hx hb d_ND_canHear_42 ?_
      refine lv_iload_n hx hb d_ND_canHear_43 rfl (lv_at hl 2 rfl) ?_
      refine qa_pN (As := [.int (((v 2 i 6) - (v 2 j 6)) + (v 3 i j)), .int b]) E (c_VF_isAtMost l (((v 2 i 6) - (v 2 j 6)) + (v 3 i j)) b) k_ND_60 (qa_fitR (by decide) (by decide)) rfl hl.1 rfl (Nat.le_of_ble_eq_true rfl) d_ND_canHear_44 ?_
      exact qa_zret hx hb hr hlocks (by first | (rw [qb_e0 h11]; rfl) | (rw [qb_n0 h11, decide_eq_true (Classical.not_not.mp h19)]; rfl) | (rw [qb_n0 h11, decide_eq_false h19]; rfl) | (rw [qb_n0 h11, decide_eq_true h19]; rfl)) (qb_nar _) d_ND_canHear_47
    · refine lv_iconst (v := 0) hx hb d_ND_canHear_22 (by decide) ?_
      exact qa_zret hx hb hr hlocks (by first | (rw [qb_e0 h11]; rfl) | (rw [qb_n0 h11, decide_eq_true (Classical.not_not.mp h19)]; rfl) | (rw [qb_n0 h11, decide_eq_false h19]; rfl) | (rw [qb_n0 h11, decide_eq_true h19]; rfl)) rfl d_ND_canHear_23

set_option maxHeartbeats 4000000 in
set_option maxRecDepth 100000 in
theorem c_ND_says (l : Launch) (y : qa_L) (v : qa_M) (i : Nat) (x to fr : Int32) (hi : i < qa_n y) : qa_Pu l y_ND_says b_ND_says 4 (some .int) 0 [.ref (qa_a y 2 i), .int x, .int to, .int fr] (qa_W y v) (qm_says (v 2 i 9) (v 2 i 10) x to fr) := by
  refine qa_ofPu (plainFor_of_name (by decide)) (Nat.le_of_ble_eq_true rfl) ?_
  intro p e s m below meth c ls F hr hlocks hW hl
  have E : qa_E p m c b_ND_says 4 s _ "VotedFrames$Node" y := ⟨F, hW.2⟩
  have hC : qa_C y v s s.heap [] := ⟨hW.1, va_S.rf⟩
  have hx := F.1
  have hb := F.2.1
  have hown : s.vm.findClass "VotedFrames$Node" = some m.cls := F.2.2.2.1
  have hts := F.2.2.2.2
  have hn4 : 4 ≤ qa_n y := E.2.1.2.2.1
  have hn7 : qa_n y ≤ 7 := E.2.1.2.2.2.1
  have hl : lv_has ls 4 [(0, .ref (qa_a y 2 i)), (1, .int x), (2, .int to), (3, .int fr)] := hl
  refine lv_aload_n hx hb d_ND_says_0 rfl (lv_at hl 0 rfl) ?_
  refine qa_get (k := 2) (i := i) (f := 9) (val := .int (v 2 i 9)) E hC hi rfl rfl (by decide) f_ND_15 rfl rfl d_ND_says_1 ?_
  rcases qm_sw25 (v 2 i 9) with k4 | k4 | k4 | k4 | k4
  · refine lv_tableIn (off := 32) (tgt := 36) hx hb d_ND_says_4 (by rw [k4]; decide) (by rw [k4]; decide) (by rw [k4]; rfl) rfl ?_
    refine lv_aload_n hx hb d_ND_says_36 rfl (lv_at hl 0 rfl) ?_
    refine qa_get (k := 2) (i := i) (f := 10) (val := .int (v 2 i 10)) E hC hi rfl rfl (by decide) f_ND_63 rfl rfl d_ND_says_37 ?_
    exact qa_iret hx hb hr hlocks (by unfold qm_says; first | (rw [if_pos k4]; done) | (rw [if_neg (by rw [k4]; decide), if_pos k4]; first | (rw [if_pos h44]; done) | (rw [if_neg h44]; done)) | (rw [if_neg (by rw [k4]; decide), if_neg (by rw [k4]; decide), if_pos k4]; done) | (rw [if_neg (by rw [k4]; decide), if_neg (by rw [k4]; decide), if_neg (by rw [k4]; decide), if_pos k4]; first | (rw [if_pos h72]; done) | (rw [if_neg h72]; done)) | (rw [if_neg (qm_out_ne k4 (by decide) (by decide)), if_neg (qm_out_ne k4 (by decide) (by decide)), if_neg (qm_out_ne k4 (by decide) (by decide)), if_neg (qm_out_ne k4 (by decide) (by decide))]; done)) d_ND_says_40
  · refine lv_tableIn (off := 37) (tgt := 41) hx hb d_ND_says_4 (by rw [k4]; decide) (by rw [k4]; decide) (by rw [k4]; rfl) rfl ?_
    refine lv_iload_n hx hb d_ND_says_41 rfl (lv_at hl 2 rfl) ?_
    refine lv_iconst (v := 2) hx hb d_ND_says_42 (by decide) ?_
    refine lv_irem hx hb d_ND_says_43 qm_div2 ?_
    refine lv_if_eq hx hb d_ND_says_44 rfl (fun h44 => ?_) (fun h44 => ?_)
    · refine lv_iload_n hx hb d_ND_says_56 rfl (lv_at hl 1 rfl) ?_
      exact qa_iret hx hb hr hlocks (by unfold qm_says; first | (rw [if_pos k4]; done) | (rw [if_neg (by rw [k4]; decide), if_pos k4]; first | (rw [if_pos h44]; done) | (rw [if_neg h44]; done)) | (rw [if_neg (by rw [k4]; decide), if_neg (by rw [k4]; decide), if_pos k4]; done) | (rw [if_neg (by rw [k4]; decide), if_neg (by rw [k4]; decide), if_neg (by rw [k4]; decide), if_pos k4]; first | (rw [if_pos h72]; done) | (rw [if_neg h72]; done)) | (rw [if_neg (qm_out_ne k4 (by decide) (by decide)), if_neg (qm_out_ne k4 (by decide) (by decide)), if_neg (qm_out_ne k4 (by decide) (by decide)), if_neg (qm_out_ne k4 (by decide) (by decide))]; done)) d_ND_says_57
    · refine lv_iload_n hx hb d_ND_says_47 rfl (lv_at hl 1 rfl) ?_
      refine lv_aload_n hx hb d_ND_says_48 rfl (lv_at hl 0 rfl) ?_
      refine qa_get (k := 2) (i := i) (f := 10) (val := .int (v 2 i 10)) E hC hi rfl rfl (by decide) f_ND_63 rfl rfl d_ND_says_49 ?_
      refine lv_iadd hx hb d_ND_says_52 ?_
      refine lv_goto hx hb d_ND_says_53 rfl ?_
      exact qa_iret hx hb hr hlocks (by unfold qm_says; first | (rw [if_pos k4]; done) | (rw [if_neg (by rw [k4]; decide), if_pos k4]; first | (rw [if_pos h44]; done) | (rw [if_neg h44]; done)) | (rw [if_neg (by rw [k4]; decide), if_neg (by rw [k4]; decide), if_pos k4]; done) | (rw [if_neg (by rw [k4]; decide), if_neg (by rw [k4]; decide), if_neg (by rw [k4]; decide), if_pos k4]; first | (rw [if_pos h72]; done) | (rw [if_neg h72]; done)) | (rw [if_neg (qm_out_ne k4 (by decide) (by decide)), if_neg (qm_out_ne k4 (by decide) (by decide)), if_neg (qm_out_ne k4 (by decide) (by decide)), if_neg (qm_out_ne k4 (by decide) (by decide))]; done)) d_ND_says_57
  · refine lv_tableIn (off := 54) (tgt := 58) hx hb d_ND_says_4 (by rw [k4]; decide) (by rw [k4]; decide) (by rw [k4]; rfl) rfl ?_
    refine lv_iload_n hx hb d_ND_says_58 rfl (lv_at hl 1 rfl) ?_
    refine lv_aload_n hx hb d_ND_says_59 rfl (lv_at hl 0 rfl) ?_
    refine qa_get (k := 2) (i := i) (f := 10) (val := .int (v 2 i 10)) E hC hi rfl rfl (by decide) f_ND_63 rfl rfl d_ND_says_60 ?_
    refine lv_iload_n hx hb d_ND_says_63 rfl (lv_at hl 2 rfl) ?_
    refine lv_iconst (v := 1) hx hb d_ND_says_64 (by decide) ?_
    refine lv_iadd hx hb d_ND_says_65 ?_
    refine lv_imul hx hb d_ND_says_66 ?_
    refine lv_iadd hx hb d_ND_says_67 ?_
    exact qa_iret hx hb hr hlocks (by unfold qm_says; first | (rw [if_pos k4]; done) | (rw [if_neg (by rw [k4]; decide), if_pos k4]; first | (rw [if_pos h44]; done) | (rw [if_neg h44]; done)) | (rw [if_neg (by rw [k4]; decide), if_neg (by rw [k4]; decide), if_pos k4]; done) | (rw [if_neg (by rw [k4]; decide), if_neg (by rw [k4]; decide), if_neg (by rw [k4]; decide), if_pos k4]; first | (rw [if_pos h72]; done) | (rw [if_neg h72]; done)) | (rw [if_neg (qm_out_ne k4 (by decide) (by decide)), if_neg (qm_out_ne k4 (by decide) (by decide)), if_neg (qm_out_ne k4 (by decide) (by decide)), if_neg (qm_out_ne k4 (by decide) (by decide))]; done)) d_ND_says_68
  · refine lv_tableIn (off := 65) (tgt := 69) hx hb d_ND_says_4 (by rw [k4]; decide) (by rw [k4]; decide) (by rw [k4]; rfl) rfl ?_
    refine lv_iload_n hx hb d_ND_says_69 rfl (lv_at hl 3 rfl) ?_
    refine lv_iconst (v := 2) hx hb d_ND_says_70 (by decide) ?_
    refine lv_irem hx hb d_ND_says_71 qm_div2 ?_
    refine lv_if_eq hx hb d_ND_says_72 rfl (fun h72 => ?_) (fun h72 => ?_)
    · refine lv_iload_n hx hb d_ND_says_82 rfl (lv_at hl 1 rfl) ?_
      exact qa_iret hx hb hr hlocks (by unfold qm_says; first | (rw [if_pos k4]; done) | (rw [if_neg (by rw [k4]; decide), if_pos k4]; first | (rw [if_pos h44]; done) | (rw [if_neg h44]; done)) | (rw [if_neg (by rw [k4]; decide), if_neg (by rw [k4]; decide), if_pos k4]; done) | (rw [if_neg (by rw [k4]; decide), if_neg (by rw [k4]; decide), if_neg (by rw [k4]; decide), if_pos k4]; first | (rw [if_pos h72]; done) | (rw [if_neg h72]; done)) | (rw [if_neg (qm_out_ne k4 (by decide) (by decide)), if_neg (qm_out_ne k4 (by decide) (by decide)), if_neg (qm_out_ne k4 (by decide) (by decide)), if_neg (qm_out_ne k4 (by decide) (by decide))]; done)) d_ND_says_83
    · refine lv_aload_n hx hb d_ND_says_75 rfl (lv_at hl 0 rfl) ?_
      refine qa_get (k := 2) (i := i) (f := 10) (val := .int (v 2 i 10)) E hC hi rfl rfl (by decide) f_ND_63 rfl rfl d_ND_says_76 ?_
      refine lv_goto hx hb d_ND_says_79 rfl ?_
      exact qa_iret hx hb hr hlocks (by unfold qm_says; first | (rw [if_pos k4]; done) | (rw [if_neg (by rw [k4]; decide), if_pos k4]; first | (rw [if_pos h44]; done) | (rw [if_neg h44]; done)) | (rw [if_neg (by rw [k4]; decide), if_neg (by rw [k4]; decide), if_pos k4]; done) | (rw [if_neg (by rw [k4]; decide), if_neg (by rw [k4]; decide), if_neg (by rw [k4]; decide), if_pos k4]; first | (rw [if_pos h72]; done) | (rw [if_neg h72]; done)) | (rw [if_neg (qm_out_ne k4 (by decide) (by decide)), if_neg (qm_out_ne k4 (by decide) (by decide)), if_neg (qm_out_ne k4 (by decide) (by decide)), if_neg (qm_out_ne k4 (by decide) (by decide))]; done)) d_ND_says_83
  · refine lv_tableOut (tgt := 84) hx hb d_ND_says_4 k4 rfl ?_
    refine lv_iload_n hx hb d_ND_says_84 rfl (lv_at hl 1 rfl) ?_
    exact qa_iret hx hb hr hlocks (by unfold qm_says; first | (rw [if_pos k4]; done) | (rw [if_neg (by rw [k4]; decide), if_pos k4]; first | (rw [if_pos h44]; done) | (rw [if_neg h44]; done)) | (rw [if_neg (by rw [k4]; decide), if_neg (by rw [k4]; decide), if_pos k4]; done) | (rw [if_neg (by rw [k4]; decide), if_neg (by rw [k4]; decide), if_neg (by rw [k4]; decide), if_pos k4]; first | (rw [if_pos h72]; done) | (rw [if_neg h72]; done)) | (rw [if_neg (qm_out_ne k4 (by decide) (by decide)), if_neg (qm_out_ne k4 (by decide) (by decide)), if_neg (qm_out_ne k4 (by decide) (by decide)), if_neg (qm_out_ne k4 (by decide) (by decide))]; done)) d_ND_says_85

set_option maxHeartbeats 4000000 in
set_option maxRecDepth 100000 in
theorem c_ND_shows (l : Launch) (y : qa_L) (v : qa_M) (i : Nat) (to : Int32) (hi : i < qa_n y) : qa_Pu l y_ND_shows b_ND_shows 2 (some .int) 1 [.ref (qa_a y 2 i), .int to] (qa_W y v) (qm_shows (v 2 i 9) (v 2 i 10) (v 2 i 6) to) := by
  refine qa_ofPu (plainFor_of_name (by decide)) (Nat.le_of_ble_eq_true rfl) ?_
  intro p e s m below meth c ls F hr hlocks hW hl
  have E : qa_E p m c b_ND_shows 2 s _ "VotedFrames$Node" y := ⟨F, hW.2⟩
  have hC : qa_C y v s s.heap [] := ⟨hW.1, va_S.rf⟩
  have hx := F.1
  have hb := F.2.1
  have hown : s.vm.findClass "VotedFrames$Node" = some m.cls := F.2.2.2.1
  have hts := F.2.2.2.2
  have hn4 : 4 ≤ qa_n y := E.2.1.2.2.1
  have hn7 : qa_n y ≤ 7 := E.2.1.2.2.2.1
  have hl : lv_has ls 2 [(0, .ref (qa_a y 2 i)), (1, .int to)] := hl
  refine lv_aload_n hx hb d_ND_shows_0 rfl (lv_at hl 0 rfl) ?_
  refine qa_get (k := 2) (i := i) (f := 9) (val := .int (v 2 i 9)) E hC hi rfl rfl (by decide) f_ND_15 rfl rfl d_ND_shows_1 ?_
  refine lv_iconst (v := 5) hx hb d_ND_shows_4 (by decide) ?_
  refine lv_icmp_ne hx hb d_ND_shows_5 rfl (fun h5 => ?_) (fun h5 => ?_)
  · refine lv_aload_n hx hb d_ND_shows_15 rfl (lv_at hl 0 rfl) ?_
    refine lv_aload_n hx hb d_ND_shows_16 rfl (lv_at hl 0 rfl) ?_
    refine qa_get (k := 2) (i := i) (f := 6) (val := .int (v 2 i 6)) E hC hi rfl rfl (by decide) f_ND_57 rfl rfl d_ND_shows_17 ?_
    refine lv_iload_n hx hb d_ND_shows_20 rfl (lv_at hl 1 rfl) ?_
    refine lv_iconst (v := 0) hx hb d_ND_shows_21 (by decide) ?_
    refine qa_pV (k := 2) (i := i) (As := [.int (v 2 i 6), .int to, .int 0]) E hC (c_ND_says l y v i (v 2 i 6) to 0 hi) hi rfl rfl k_ND_66 (qa_fitR (by decide) (by decide)) rfl hl.1 rfl (Nat.le_of_ble_eq_true rfl) d_ND_shows_22 ?_
    exact qa_iret hx hb hr hlocks (by unfold qm_shows; first | (rw [if_pos h5]; done) | (rw [if_neg h5]; done) | (rw [if_pos (Classical.not_not.mp h5)]; done)) d_ND_shows_25
  · refine lv_aload_n hx hb d_ND_shows_8 rfl (lv_at hl 0 rfl) ?_
    refine qa_get (k := 2) (i := i) (f := 6) (val := .int (v 2 i 6)) E hC hi rfl rfl (by decide) f_ND_57 rfl rfl d_ND_shows_9 ?_
    refine lv_goto hx hb d_ND_shows_12 rfl ?_
    exact qa_iret hx hb hr hlocks (by unfold qm_shows; first | (rw [if_pos h5]; done) | (rw [if_neg h5]; done) | (rw [if_pos (Classical.not_not.mp h5)]; done)) d_ND_shows_25

set_option maxHeartbeats 4000000 in
set_option maxRecDepth 100000 in
theorem c_ND_differenceTo (l : Launch) (y : qa_L) (v : qa_M) (i j : Nat) (hi : i < qa_n y) (hj : j < qa_n y) : qa_Pu l y_ND_differenceTo b_ND_differenceTo 2 (some .int) 2 [.ref (qa_a y 2 i), .ref (qa_a y 2 j)] (qa_W y v) (qm_shows (v 2 j 9) (v 2 j 10) (v 2 j 6) (nI i) + v 4 i j - v 2 i 6) := by
  refine qa_ofPu (plainFor_of_name (by decide)) (Nat.le_of_ble_eq_true rfl) ?_
  intro p e s m below meth c ls F hr hlocks hW hl
  have E : qa_E p m c b_ND_differenceTo 2 s _ "VotedFrames$Node" y := ⟨F, hW.2⟩
  have hC : qa_C y v s s.heap [] := ⟨hW.1, va_S.rf⟩
  have hx := F.1
  have hb := F.2.1
  have hown : s.vm.findClass "VotedFrames$Node" = some m.cls := F.2.2.2.1
  have hts := F.2.2.2.2
  have hn4 : 4 ≤ qa_n y := E.2.1.2.2.1
  have hn7 : qa_n y ≤ 7 := E.2.1.2.2.2.1
  have hl : lv_has ls 2 [(0, .ref (qa_a y 2 i)), (1, .ref (qa_a y 2 j))] := hl
  refine lv_aload_n hx hb d_ND_differenceTo_0 rfl (lv_at hl 1 rfl) ?_
  refine lv_aload_n hx hb d_ND_differenceTo_1 rfl (lv_at hl 0 rfl) ?_
  refine qa_get (k := 2) (i := i) (f := 0) (val := .int (nI i)) E hC hi rfl rfl (by decide) f_ND_19 rfl rfl d_ND_differenceTo_2 ?_
  refine qa_pV (k := 2) (i := j) (As := [.int (nI i)]) E hC (c_ND_shows l y v j (nI i) hj) hj rfl rfl k_ND_70 (qa_fitR (by decide) (by decide)) rfl hl.1 rfl (Nat.le_of_ble_eq_true rfl) d_ND_differenceTo_5 ?_
  refine lv_aload_n hx hb d_ND_differenceTo_8 rfl (lv_at hl 0 rfl) ?_
  refine qa_get (k := 2) (i := i) (f := 2) (val := .ref (qa_a y 4 i)) E hC hi rfl rfl (by decide) f_ND_25 rfl rfl d_ND_differenceTo_9 ?_
  refine lv_aload_n hx hb d_ND_differenceTo_12 rfl (lv_at hl 1 rfl) ?_
  refine qa_get (k := 2) (i := j) (f := 0) (val := .int (nI j)) E hC hj rfl rfl (by decide) f_ND_19 rfl rfl d_ND_differenceTo_13 ?_
  refine qa_ild (k := 4) (i := i) (j := j) E hC hi rfl rfl rfl hj d_ND_differenceTo_16 ?_
  refine lv_iadd hx hb d_ND_differenceTo_17 ?_
  refine lv_aload_n hx hb d_ND_differenceTo_18 rfl (lv_at hl 0 rfl) ?_
  refine qa_get (k := 2) (i := i) (f := 6) (val := .int (v 2 i 6)) E hC hi rfl rfl (by decide) f_ND_57 rfl rfl d_ND_differenceTo_19 ?_
  refine lv_isub hx hb d_ND_differenceTo_22 ?_
  exact qa_iret hx hb hr hlocks rfl d_ND_differenceTo_23

set_option maxHeartbeats 4000000 in
set_option maxRecDepth 100000 in
theorem c_ND_accusersOf (l : Launch) (y : qa_L) (v : qa_M) (i j : Nat) (hi : i < qa_n y) (hj : j < qa_n y) : qa_Pu l y_ND_accusersOf b_ND_accusersOf 4 (some .int) 1 [.ref (qa_a y 2 i), .int (nI j)] (qa_W y v) (nI (qm_acc v i j (qa_n y))) := by
  refine qa_ofPu (plainFor_of_name (by decide)) (Nat.le_of_ble_eq_true rfl) ?_
  intro p e s m below meth c ls F hr hlocks hW hl
  have E : qa_E p m c b_ND_accusersOf 4 s _ "VotedFrames$Node" y := ⟨F, hW.2⟩
  have hC : qa_C y v s s.heap [] := ⟨hW.1, va_S.rf⟩
  have hx := F.1
  have hb := F.2.1
  have hown : s.vm.findClass "VotedFrames$Node" = some m.cls := F.2.2.2.1
  have hts := F.2.2.2.2
  have hn4 : 4 ≤ qa_n y := E.2.1.2.2.1
  have hn7 : qa_n y ≤ 7 := E.2.1.2.2.2.1
  have hl : lv_has ls 4 [(0, .ref (qa_a y 2 i)), (1, .int (nI j))] := hl
  have loop : ∀ (d k : Nat) (ls : Array Slot), k + d = qa_n y → lv_has ls 4 [(3, .int (nI k)), (2, .int (nI (qm_acc v i j k))), (0, .ref (qa_a y 2 i)), (1, .int (nI j))] → W p l e (qa_R 1) s m [.ref (qa_a y 2 i), .int (nI j)].toArray below meth c s.heap [] 0 0 (MQ below (QcRead (nI (qm_acc v i j (qa_n y)))) [.ref (qa_a y 2 i), .int (nI j)].toArray s 0 0 (fun _ => False)) (F0 m 4 ls []) := by
    intro d
    induction d with
    | zero =>
      intro k ls hkd hl
      obtain rfl : k = qa_n y := by omega
      refine lv_iload_n hx hb d_ND_accusersOf_4 rfl (lv_at hl 0 rfl) ?_
      refine lv_aload_n hx hb d_ND_accusersOf_5 rfl (lv_at hl 2 rfl) ?_
      refine qa_get (k := 2) (i := i) (f := 4) (val := .ref (qa_a y 6 i)) E hC hi rfl rfl (by decide) f_ND_31 rfl rfl d_ND_accusersOf_6 ?_
      refine qa_len (k := 6) (i := i) E hC hi rfl (v0 := nI (qa_n y)) rfl d_ND_accusersOf_9 ?_
      refine lv_icmp_ge hx hb d_ND_accusersOf_10 rfl (fun _ => ?_) (fun h9 => absurd (nI_le (Nat.le_refl _) (by omega)) h9)
      refine lv_iload_n hx hb d_ND_accusersOf_51 rfl (lv_at hl 1 rfl) ?_
      exact qa_iret hx hb hr hlocks rfl d_ND_accusersOf_52
    | succ d ih =>
      intro k ls hkd hl
      have hk : k < qa_n y := by omega
      refine lv_iload_n hx hb d_ND_accusersOf_4 rfl (lv_at hl 0 rfl) ?_
      refine lv_aload_n hx hb d_ND_accusersOf_5 rfl (lv_at hl 2 rfl) ?_
      refine qa_get (k := 2) (i := i) (f := 4) (val := .ref (qa_a y 6 i)) E hC hi rfl rfl (by decide) f_ND_31 rfl rfl d_ND_accusersOf_6 ?_
      refine qa_len (k := 6) (i := i) E hC hi rfl (v0 := nI (qa_n y)) rfl d_ND_accusersOf_9 ?_
      refine lv_icmp_ge hx hb d_ND_accusersOf_10 rfl (fun h9 => absurd h9 (nI_ge hk (by omega))) (fun _ => ?_)
      refine lv_iload_n hx hb d_ND_accusersOf_13 rfl (lv_at hl 0 rfl) ?_
      refine lv_iload_n hx hb d_ND_accusersOf_14 rfl (lv_at hl 3 rfl) ?_
      refine lv_icmp_eq hx hb d_ND_accusersOf_15 rfl (fun h15 => ?_) (fun h15 => ?_)
      · refine lv_iinc (v := nI (k + 1)) hx hb d_ND_accusersOf_45 hl (k := 0) rfl (nI_1 k) (by decide) rfl (fun ls hl => ?_)
        have hl : lv_has ls 4 [(3, .int (nI (k + 1))), (2, .int (nI (qm_acc v i j k))), (0, .ref (qa_a y 2 i)), (1, .int (nI j))] := hl
        refine lv_goto hx hb d_ND_accusersOf_48 rfl ?_
        refine ih (k + 1) ls (by omega) ?_
        have hq : qm_acc v i j (k + 1) = qm_acc v i j k := if_neg (fun q => q.1 ((nI_eq (by omega) (by omega)).mp h15))
        rw [hq]
        exact lv_sub hl [0, 1, 2, 3] rfl
      · refine lv_aload_n hx hb d_ND_accusersOf_18 rfl (lv_at hl 2 rfl) ?_
        refine qa_get (k := 2) (i := i) (f := 11) (val := .int (v 2 i 11)) E hC hi rfl rfl (by decide) f_ND_34 rfl rfl d_ND_accusersOf_19 ?_
        refine lv_iload_n hx hb d_ND_accusersOf_22 rfl (lv_at hl 0 rfl) ?_
        refine qa_pN (As := [.int (v 2 i 11), .int (nI k)]) E (c_VF_contains l (v 2 i 11) (nI k)) k_ND_53 (qa_fitR (by decide) (by decide)) rfl hl.1 rfl (Nat.le_of_ble_eq_true rfl) d_ND_accusersOf_23 ?_
        refine lv_if_eq hx hb d_ND_accusersOf_26 rfl (fun h26 => ?_) (fun h26 => ?_)
        · refine lv_iinc (v := nI (k + 1)) hx hb d_ND_accusersOf_45 hl (k := 0) rfl (nI_1 k) (by decide) rfl (fun ls hl => ?_)
          have hl : lv_has ls 4 [(3, .int (nI (k + 1))), (2, .int (nI (qm_acc v i j k))), (0, .ref (qa_a y 2 i)), (1, .int (nI j))] := hl
          refine lv_goto hx hb d_ND_accusersOf_48 rfl ?_
          refine ih (k + 1) ls (by omega) ?_
          have hq : qm_acc v i j (k + 1) = qm_acc v i j k := if_neg (fun q => by rw [q.2.1] at h26; exact absurd h26 (by decide))
          rw [hq]
          exact lv_sub hl [0, 1, 2, 3] rfl
        · refine lv_aload_n hx hb d_ND_accusersOf_29 rfl (lv_at hl 2 rfl) ?_
          refine qa_get (k := 2) (i := i) (f := 4) (val := .ref (qa_a y 6 i)) E hC hi rfl rfl (by decide) f_ND_31 rfl rfl d_ND_accusersOf_30 ?_
          refine lv_iload_n hx hb d_ND_accusersOf_33 rfl (lv_at hl 0 rfl) ?_
          refine qa_ild (k := 6) (i := i) (j := k) E hC hi rfl rfl rfl hk d_ND_accusersOf_34 ?_
          refine lv_iload_n hx hb d_ND_accusersOf_35 rfl (lv_at hl 3 rfl) ?_
          refine qa_pN (As := [.int (v 6 i k), .int (nI j)]) E (c_VF_contains l (v 6 i k) (nI j)) k_ND_53 (qa_fitR (by decide) (by decide)) rfl hl.1 rfl (Nat.le_of_ble_eq_true rfl) d_ND_accusersOf_36 ?_
          refine lv_if_eq hx hb d_ND_accusersOf_39 rfl (fun h39 => ?_) (fun h39 => ?_)
          · refine lv_iinc (v := nI (k + 1)) hx hb d_ND_accusersOf_45 hl (k := 0) rfl (nI_1 k) (by decide) rfl (fun ls hl => ?_)
            have hl : lv_has ls 4 [(3, .int (nI (k + 1))), (2, .int (nI (qm_acc v i j k))), (0, .ref (qa_a y 2 i)), (1, .int (nI j))] := hl
            refine lv_goto hx hb d_ND_accusersOf_48 rfl ?_
            refine ih (k + 1) ls (by omega) ?_
            have hq : qm_acc v i j (k + 1) = qm_acc v i j k := if_neg (fun q => by rw [q.2.2] at h39; exact absurd h39 (by decide))
            rw [hq]
            exact lv_sub hl [0, 1, 2, 3] rfl
          · refine lv_iinc (v := nI ((qm_acc v i j k) + 1)) hx hb d_ND_accusersOf_42 hl (k := 1) rfl (nI_1 (qm_acc v i j k)) (by decide) rfl (fun ls hl => ?_)
            have hl : lv_has ls 4 [(2, .int (nI ((qm_acc v i j k) + 1))), (3, .int (nI k)), (0, .ref (qa_a y 2 i)), (1, .int (nI j))] := hl
            refine lv_iinc (v := nI (k + 1)) hx hb d_ND_accusersOf_45 hl (k := 1) rfl (nI_1 k) (by decide) rfl (fun ls hl => ?_)
            have hl : lv_has ls 4 [(3, .int (nI (k + 1))), (2, .int (nI ((qm_acc v i j k) + 1))), (0, .ref (qa_a y 2 i)), (1, .int (nI j))] := hl
            refine lv_goto hx hb d_ND_accusersOf_48 rfl ?_
            refine ih (k + 1) ls (by omega) ?_
            have hq : qm_acc v i j (k + 1) = qm_acc v i j k + 1 := if_pos ⟨fun q => h15 (by rw [q]), qb_n0 h26, qb_n0 h39⟩
            rw [hq]
            exact lv_sub hl [0, 1, 2, 3] rfl
  refine lv_iconst (v := 0) hx hb d_ND_accusersOf_0 (by decide) ?_
  refine lv_istore_n hx hb d_ND_accusersOf_1 rfl hl (by decide) rfl (fun ls hl => ?_)
  have hl : lv_has ls 4 [(2, .int 0), (0, .ref (qa_a y 2 i)), (1, .int (nI j))] := hl
  refine lv_iconst (v := 0) hx hb d_ND_accusersOf_2 (by decide) ?_
  refine lv_istore_n hx hb d_ND_accusersOf_3 rfl hl (by decide) rfl (fun ls hl => ?_)
  have hl : lv_has ls 4 [(3, .int 0), (2, .int 0), (0, .ref (qa_a y 2 i)), (1, .int (nI j))] := hl
  exact loop (qa_n y) 0 ls (by omega) (lv_sub hl [0, 1, 2, 3] rfl)
end
section
theorem qb_nz {b : Bool} (h : b = true) : ¬ qb b = 0 := by rw [h]; decide
theorem qb_zf {b : Bool} (h : b = false) : qb b = 0 := by rw [h]; rfl
/-- the rows f and g are the same at the first n places -/
def qm_same (f g : Nat → Int32) : Nat → Bool
  | 0 => true
  | n + 1 => qm_same f g n && decide (f n = g n)
theorem qm_same_s {f g : Nat → Int32} {k : Nat} (h : qm_same f g k = true) (h2 : f k = g k) : qm_same f g (k + 1) = true := by simp [qm_same, h, h2]
theorem qm_same_f {f g : Nat → Int32} {k n : Nat} (hk : k < n) (h : ¬ f k = g k) : qm_same f g n = false := by
  induction n with
  | zero => omega
  | succ n ih =>
    by_cases e : k = n
    · subst e
      simp [qm_same, h]
    · simp [qm_same, ih (by omega)]
theorem qm_same_iff {f g : Nat → Int32} {n : Nat} : qm_same f g n = true ↔ ∀ k, k < n → f k = g k := by
  induction n with
  | zero => simp [qm_same]
  | succ n ih =>
    simp only [qm_same, Bool.and_eq_true, decide_eq_true_eq, ih]
    constructor
    · rintro ⟨a, b⟩ k hk
      by_cases e : k = n
      · rw [e]; exact b
      · exact a k (by omega)
    · intro h
      exact ⟨fun k hk => h k (by omega), h n (by omega)⟩
/-- two nodes hold the same members, words and inputs -/
def qm_alk (y : qa_L) (v : qa_M) (i j : Nat) : Bool := (decide (v 2 i 11 = v 2 j 11) && qm_same (v 7 i) (v 7 j) 4) && qm_same (v 5 i) (v 5 j) (qa_n y)
/-- z is a node's number -/
def qm_isn (n : Nat) (z : Int32) : Bool := qm_wi z 0 (nI n - 1)
def qm_ix (z : Int32) : Nat := z.toNatClampNeg
theorem qm_ix_n {j : Nat} (h : j < 2 ^ 31) : qm_ix (nI j) = j := nI_clamp h
theorem qm_wi_4 {z : Int32} (h : qm_wi z 0 3 = true) : ∃ j, j < 4 ∧ z = nI j := qm_wi_n (n := 4) (by decide) (by decide) h
def qm_fits (n : Nat) (op x : Int32) : Bool := if op = 1 then qm_isn n x else if op = 2 then qm_wi x 0 3 else if op = 8 then qm_wi x 0 11 else true
end
section
set_option maxHeartbeats 4000000 in
set_option maxRecDepth 100000 in
theorem c_ND_sameRow_7 (l : Launch) (y : qa_L) (v : qa_M) (i j : Nat) (hi : i < qa_n y) (hj : j < qa_n y) : qa_Pu l y_ND_sameRow b_ND_sameRow 3 (some .boolean) 0 [.ref (qa_a y 7 i), .ref (qa_a y 7 j)] (qa_W y v) (qb (qm_same (v 7 i) (v 7 j) 4)) := by
  refine qa_ofPu (plainFor_of_name (by decide)) (Nat.le_of_ble_eq_true rfl) ?_
  intro p e s m below meth c ls F hr hlocks hW hl
  have E : qa_E p m c b_ND_sameRow 3 s _ "VotedFrames$Node" y := ⟨F, hW.2⟩
  have hC : qa_C y v s s.heap [] := ⟨hW.1, va_S.rf⟩
  have hx := F.1
  have hb := F.2.1
  have hown : s.vm.findClass "VotedFrames$Node" = some m.cls := F.2.2.2.1
  have hts := F.2.2.2.2
  have hn4 : 4 ≤ qa_n y := E.2.1.2.2.1
  have hn7 : qa_n y ≤ 7 := E.2.1.2.2.2.1
  have hl : lv_has ls 3 [(0, .ref (qa_a y 7 i)), (1, .ref (qa_a y 7 j))] := hl
  have loop : ∀ (d k : Nat) (ls : Array Slot), k + d = 4 → (qm_same (v 7 i) (v 7 j) k = true) → lv_has ls 3 [(2, .int (nI k)), (0, .ref (qa_a y 7 i)), (1, .ref (qa_a y 7 j))] → W p l e (qa_R 0) s m [.ref (qa_a y 7 i), .ref (qa_a y 7 j)].toArray below meth c s.heap [] 0 0 (MQ below (QcRead (qb (qm_same (v 7 i) (v 7 j) 4))) [.ref (qa_a y 7 i), .ref (qa_a y 7 j)].toArray s 0 0 (fun _ => False)) (F0 m 2 ls []) := by
    intro d
    induction d with
    | zero =>
      intro k ls hkd hI hl
      obtain rfl : 4 = k := by omega
      refine lv_iload_n hx hb d_ND_sameRow_2 rfl (lv_at hl 0 rfl) ?_
      refine lv_aload_n hx hb d_ND_sameRow_3 rfl (lv_at hl 1 rfl) ?_
      refine qa_len (k := 7) (i := i) E hC hi rfl (v0 := nI 4) rfl d_ND_sameRow_4 ?_
      refine lv_icmp_ge hx hb d_ND_sameRow_5 rfl (fun _ => ?_) (fun h9 => absurd (nI_le (Nat.le_refl _) (by omega)) h9)
      refine lv_iconst (v := 1) hx hb d_ND_sameRow_31 (by decide) ?_
      exact qa_zret hx hb hr hlocks (qb_1 hI) rfl d_ND_sameRow_32
    | succ d ih =>
      intro k ls hkd hI hl
      have hk : k < 4 := by omega
      refine lv_iload_n hx hb d_ND_sameRow_2 rfl (lv_at hl 0 rfl) ?_
      refine lv_aload_n hx hb d_ND_sameRow_3 rfl (lv_at hl 1 rfl) ?_
      refine qa_len (k := 7) (i := i) E hC hi rfl (v0 := nI 4) rfl d_ND_sameRow_4 ?_
      refine lv_icmp_ge hx hb d_ND_sameRow_5 rfl (fun h9 => absurd h9 (nI_ge hk (by omega))) (fun _ => ?_)
      refine lv_iload_n hx hb d_ND_sameRow_8 rfl (lv_at hl 0 rfl) ?_
      refine lv_aload_n hx hb d_ND_sameRow_9 rfl (lv_at hl 2 rfl) ?_
      refine qa_len (k := 7) (i := j) E hC hj rfl (v0 := nI 4) rfl d_ND_sameRow_10 ?_
      refine lv_icmp_ge hx hb d_ND_sameRow_11 rfl (fun h9 => absurd h9 (nI_ge hk (by omega))) (fun _ => ?_)
      refine lv_aload_n hx hb d_ND_sameRow_14 rfl (lv_at hl 1 rfl) ?_
      refine lv_iload_n hx hb d_ND_sameRow_15 rfl (lv_at hl 0 rfl) ?_
      refine qa_ild (k := 7) (i := i) (j := k) E hC hi rfl rfl rfl hk d_ND_sameRow_16 ?_
      refine lv_aload_n hx hb d_ND_sameRow_17 rfl (lv_at hl 2 rfl) ?_
      refine lv_iload_n hx hb d_ND_sameRow_18 rfl (lv_at hl 0 rfl) ?_
      refine qa_ild (k := 7) (i := j) (j := k) E hC hj rfl rfl rfl hk d_ND_sameRow_19 ?_
      refine lv_icmp_eq hx hb d_ND_sameRow_20 rfl (fun h20 => ?_) (fun h20 => ?_)
      · refine lv_iinc (v := nI (k + 1)) hx hb d_ND_sameRow_25 hl (k := 0) rfl (nI_1 k) (by decide) rfl (fun ls hl => ?_)
        have hl : lv_has ls 3 [(2, .int (nI (k + 1))), (0, .ref (qa_a y 7 i)), (1, .ref (qa_a y 7 j))] := hl
        refine lv_goto hx hb d_ND_sameRow_28 rfl ?_
        exact ih (k + 1) ls (by omega) (qm_same_s hI h20) (lv_sub hl [0, 1, 2] rfl)
      · refine lv_iconst (v := 0) hx hb d_ND_sameRow_23 (by decide) ?_
        exact qa_zret hx hb hr hlocks (qb_0 (qm_same_f hk h20)) rfl d_ND_sameRow_24
  refine lv_iconst (v := 0) hx hb d_ND_sameRow_0 (by decide) ?_
  refine lv_istore_n hx hb d_ND_sameRow_1 rfl hl (by decide) rfl (fun ls hl => ?_)
  have hl : lv_has ls 3 [(2, .int 0), (0, .ref (qa_a y 7 i)), (1, .ref (qa_a y 7 j))] := hl
  exact loop 4 0 ls (by omega) rfl (lv_sub hl [0, 1, 2] rfl)

set_option maxHeartbeats 4000000 in
set_option maxRecDepth 100000 in
theorem c_ND_sameRow_5 (l : Launch) (y : qa_L) (v : qa_M) (i j : Nat) (hi : i < qa_n y) (hj : j < qa_n y) : qa_Pu l y_ND_sameRow b_ND_sameRow 3 (some .boolean) 0 [.ref (qa_a y 5 i), .ref (qa_a y 5 j)] (qa_W y v) (qb (qm_same (v 5 i) (v 5 j) (qa_n y))) := by
  refine qa_ofPu (plainFor_of_name (by decide)) (Nat.le_of_ble_eq_true rfl) ?_
  intro p e s m below meth c ls F hr hlocks hW hl
  have E : qa_E p m c b_ND_sameRow 3 s _ "VotedFrames$Node" y := ⟨F, hW.2⟩
  have hC : qa_C y v s s.heap [] := ⟨hW.1, va_S.rf⟩
  have hx := F.1
  have hb := F.2.1
  have hown : s.vm.findClass "VotedFrames$Node" = some m.cls := F.2.2.2.1
  have hts := F.2.2.2.2
  have hn4 : 4 ≤ qa_n y := E.2.1.2.2.1
  have hn7 : qa_n y ≤ 7 := E.2.1.2.2.2.1
  have hl : lv_has ls 3 [(0, .ref (qa_a y 5 i)), (1, .ref (qa_a y 5 j))] := hl
  have loop : ∀ (d k : Nat) (ls : Array Slot), k + d = qa_n y → (qm_same (v 5 i) (v 5 j) k = true) → lv_has ls 3 [(2, .int (nI k)), (0, .ref (qa_a y 5 i)), (1, .ref (qa_a y 5 j))] → W p l e (qa_R 0) s m [.ref (qa_a y 5 i), .ref (qa_a y 5 j)].toArray below meth c s.heap [] 0 0 (MQ below (QcRead (qb (qm_same (v 5 i) (v 5 j) (qa_n y)))) [.ref (qa_a y 5 i), .ref (qa_a y 5 j)].toArray s 0 0 (fun _ => False)) (F0 m 2 ls []) := by
    intro d
    induction d with
    | zero =>
      intro k ls hkd hI hl
      obtain rfl : qa_n y = k := by omega
      refine lv_iload_n hx hb d_ND_sameRow_2 rfl (lv_at hl 0 rfl) ?_
      refine lv_aload_n hx hb d_ND_sameRow_3 rfl (lv_at hl 1 rfl) ?_
      refine qa_len (k := 5) (i := i) E hC hi rfl (v0 := nI (qa_n y)) rfl d_ND_sameRow_4 ?_
      refine lv_icmp_ge hx hb d_ND_sameRow_5 rfl (fun _ => ?_) (fun h9 => absurd (nI_le (Nat.le_refl _) (by omega)) h9)
      refine lv_iconst (v := 1) hx hb d_ND_sameRow_31 (by decide) ?_
      exact qa_zret hx hb hr hlocks (qb_1 hI) rfl d_ND_sameRow_32
    | succ d ih =>
      intro k ls hkd hI hl
      have hk : k < qa_n y := by omega
      refine lv_iload_n hx hb d_ND_sameRow_2 rfl (lv_at hl 0 rfl) ?_
      refine lv_aload_n hx hb d_ND_sameRow_3 rfl (lv_at hl 1 rfl) ?_
      refine qa_len (k := 5) (i := i) E hC hi rfl (v0 := nI (qa_n y)) rfl d_ND_sameRow_4 ?_
      refine lv_icmp_ge hx hb d_ND_sameRow_5 rfl (fun h9 => absurd h9 (nI_ge hk (by omega))) (fun _ => ?_)
      refine lv_iload_n hx hb d_ND_sameRow_8 rfl (lv_at hl 0 rfl) ?_
      refine lv_aload_n hx hb d_ND_sameRow_9 rfl (lv_at hl 2 rfl) ?_
      refine qa_len (k := 5) (i := j) E hC hj rfl (v0 := nI (qa_n y)) rfl d_ND_sameRow_10 ?_
      refine lv_icmp_ge hx hb d_ND_sameRow_11 rfl (fun h9 => absurd h9 (nI_ge hk (by omega))) (fun _ => ?_)
      refine lv_aload_n hx hb d_ND_sameRow_14 rfl (lv_at hl 1 rfl) ?_
      refine lv_iload_n hx hb d_ND_sameRow_15 rfl (lv_at hl 0 rfl) ?_
      refine qa_ild (k := 5) (i := i) (j := k) E hC hi rfl rfl rfl hk d_ND_sameRow_16 ?_
      refine lv_aload_n hx hb d_ND_sameRow_17 rfl (lv_at hl 2 rfl) ?_
      refine lv_iload_n hx hb d_ND_sameRow_18 rfl (lv_at hl 0 rfl) ?_
      refine qa_ild (k := 5) (i := j) (j := k) E hC hj rfl rfl rfl hk d_ND_sameRow_19 ?_
      refine lv_icmp_eq hx hb d_ND_sameRow_20 rfl (fun h20 => ?_) (fun h20 => ?_)
      · refine lv_iinc (v := nI (k + 1)) hx hb d_ND_sameRow_25 hl (k := 0) rfl (nI_1 k) (by decide) rfl (fun ls hl => ?_)
        have hl : lv_has ls 3 [(2, .int (nI (k + 1))), (0, .ref (qa_a y 5 i)), (1, .ref (qa_a y 5 j))] := hl
        refine lv_goto hx hb d_ND_sameRow_28 rfl ?_
        exact ih (k + 1) ls (by omega) (qm_same_s hI h20) (lv_sub hl [0, 1, 2] rfl)
      · refine lv_iconst (v := 0) hx hb d_ND_sameRow_23 (by decide) ?_
        exact qa_zret hx hb hr hlocks (qb_0 (qm_same_f hk h20)) rfl d_ND_sameRow_24
  refine lv_iconst (v := 0) hx hb d_ND_sameRow_0 (by decide) ?_
  refine lv_istore_n hx hb d_ND_sameRow_1 rfl hl (by decide) rfl (fun ls hl => ?_)
  have hl : lv_has ls 3 [(2, .int 0), (0, .ref (qa_a y 5 i)), (1, .ref (qa_a y 5 j))] := hl
  exact loop (qa_n y) 0 ls (by omega) rfl (lv_sub hl [0, 1, 2] rfl)

set_option maxHeartbeats 4000000 in
set_option maxRecDepth 100000 in
theorem c_ND_holdsTheSameAs (l : Launch) (y : qa_L) (v : qa_M) (i j : Nat) (hi : i < qa_n y) (hj : j < qa_n y) : qa_Pu l y_ND_holdsTheSameAs b_ND_holdsTheSameAs 2 (some .boolean) 1 [.ref (qa_a y 2 i), .ref (qa_a y 2 j)] (qa_W y v) (qb (qm_alk y v i j)) := by
  refine qa_ofPu (plainFor_of_name (by decide)) (Nat.le_of_ble_eq_true rfl) ?_
  intro p e s m below meth c ls F hr hlocks hW hl
  have E : qa_E p m c b_ND_holdsTheSameAs 2 s _ "VotedFrames$Node" y := ⟨F, hW.2⟩
  have hC : qa_C y v s s.heap [] := ⟨hW.1, va_S.rf⟩
  have hx := F.1
  have hb := F.2.1
  have hown : s.vm.findClass "VotedFrames$Node" = some m.cls := F.2.2.2.1
  have hts := F.2.2.2.2
  have hn4 : 4 ≤ qa_n y := E.2.1.2.2.1
  have hn7 : qa_n y ≤ 7 := E.2.1.2.2.2.1
  have hl : lv_has ls 2 [(0, .ref (qa_a y 2 i)), (1, .ref (qa_a y 2 j))] := hl
  refine lv_aload_n hx hb d_ND_holdsTheSameAs_0 rfl (lv_at hl 0 rfl) ?_
  refine qa_get (k := 2) (i := i) (f := 11) (val := .int (v 2 i 11)) E hC hi rfl rfl (by decide) f_ND_34 rfl rfl d_ND_holdsTheSameAs_1 ?_
  refine lv_aload_n hx hb d_ND_holdsTheSameAs_4 rfl (lv_at hl 1 rfl) ?_
  refine qa_get (k := 2) (i := j) (f := 11) (val := .int (v 2 j 11)) E hC hj rfl rfl (by decide) f_ND_34 rfl rfl d_ND_holdsTheSameAs_5 ?_
  refine lv_icmp_ne hx hb d_ND_holdsTheSameAs_8 rfl (fun h8 => ?_) (fun h8 => ?_)
  · refine lv_iconst (v := 0) hx hb d_ND_holdsTheSameAs_43 (by decide) ?_
    exact qa_zret hx hb hr hlocks (qb_0 (by simp only [qm_alk]; rw [decide_eq_false h8]; rfl)) rfl d_ND_holdsTheSameAs_44
  · refine lv_aload_n hx hb d_ND_holdsTheSameAs_11 rfl (lv_at hl 0 rfl) ?_
    refine qa_get (k := 2) (i := i) (f := 5) (val := .ref (qa_a y 7 i)) E hC hi rfl rfl (by decide) f_ND_9 rfl rfl d_ND_holdsTheSameAs_12 ?_
    refine lv_aload_n hx hb d_ND_holdsTheSameAs_15 rfl (lv_at hl 1 rfl) ?_
    refine qa_get (k := 2) (i := j) (f := 5) (val := .ref (qa_a y 7 j)) E hC hj rfl rfl (by decide) f_ND_9 rfl rfl d_ND_holdsTheSameAs_16 ?_
    refine qa_pS (As := [.ref (qa_a y 7 i), .ref (qa_a y 7 j)]) E hC (c_ND_sameRow_7 l y v i j hi hj) k_ND_73 (qa_fitR (by decide) (by decide)) rfl hl.1 rfl (Nat.le_of_ble_eq_true rfl) d_ND_holdsTheSameAs_19 ?_
    refine lv_if_eq hx hb d_ND_holdsTheSameAs_22 rfl (fun h22 => ?_) (fun h22 => ?_)
    · refine lv_iconst (v := 0) hx hb d_ND_holdsTheSameAs_43 (by decide) ?_
      exact qa_zret hx hb hr hlocks (qb_0 (by simp only [qm_alk]; rw [qb_e0 h22, Bool.and_false, Bool.false_and])) rfl d_ND_holdsTheSameAs_44
    · refine lv_aload_n hx hb d_ND_holdsTheSameAs_25 rfl (lv_at hl 0 rfl) ?_
      refine qa_get (k := 2) (i := i) (f := 3) (val := .ref (qa_a y 5 i)) E hC hi rfl rfl (by decide) f_ND_28 rfl rfl d_ND_holdsTheSameAs_26 ?_
      refine lv_aload_n hx hb d_ND_holdsTheSameAs_29 rfl (lv_at hl 1 rfl) ?_
      refine qa_get (k := 2) (i := j) (f := 3) (val := .ref (qa_a y 5 j)) E hC hj rfl rfl (by decide) f_ND_28 rfl rfl d_ND_holdsTheSameAs_30 ?_
      refine qa_pS (As := [.ref (qa_a y 5 i), .ref (qa_a y 5 j)]) E hC (c_ND_sameRow_5 l y v i j hi hj) k_ND_73 (qa_fitR (by decide) (by decide)) rfl hl.1 rfl (Nat.le_of_ble_eq_true rfl) d_ND_holdsTheSameAs_33 ?_
      refine lv_if_eq hx hb d_ND_holdsTheSameAs_36 rfl (fun h36 => ?_) (fun h36 => ?_)
      · refine lv_iconst (v := 0) hx hb d_ND_holdsTheSameAs_43 (by decide) ?_
        exact qa_zret hx hb hr hlocks (qb_0 (by simp only [qm_alk]; rw [qb_e0 h36, Bool.and_false])) rfl d_ND_holdsTheSameAs_44
      · refine lv_iconst (v := 1) hx hb d_ND_holdsTheSameAs_39 (by decide) ?_
        refine lv_goto hx hb d_ND_holdsTheSameAs_40 rfl ?_
        exact qa_zret hx hb hr hlocks (qb_1 (by simp only [qm_alk]; rw [qb_n0 h22, qb_n0 h36, decide_eq_true h8]; rfl)) rfl d_ND_holdsTheSameAs_44
set_option maxHeartbeats 4000000 in
set_option maxRecDepth 100000 in
theorem c_VF_isNode (l : Launch) (y : qa_L) (v : qa_M) (z : Int32) : qa_Pu l y_VF_isNode b_VF_isNode 2 (some .boolean) 1 [.ref (qa_a y 0 0), .int z] (qa_W y v) (qb (qm_isn (qa_n y) z)) := by
  refine qa_ofPu (plainFor_of_name (by decide)) (Nat.le_of_ble_eq_true rfl) ?_
  intro p e s m below meth c ls F hr hlocks hW hl
  have E : qa_E p m c b_VF_isNode 2 s _ "VotedFrames" y := ⟨F, hW.2⟩
  have hC : qa_C y v s s.heap [] := ⟨hW.1, va_S.rf⟩
  have hx := F.1
  have hb := F.2.1
  have hown : s.vm.findClass "VotedFrames" = some m.cls := F.2.2.2.1
  have hts := F.2.2.2.2
  have hn4 : 4 ≤ qa_n y := E.2.1.2.2.1
  have hn7 : qa_n y ≤ 7 := E.2.1.2.2.2.1
  have hl : lv_has ls 2 [(0, .ref (qa_a y 0 0)), (1, .int z)] := hl
  refine lv_iload_n hx hb d_VF_isNode_0 rfl (lv_at hl 1 rfl) ?_
  refine lv_iconst (v := 0) hx hb d_VF_isNode_1 (by decide) ?_
  refine lv_aload_n hx hb d_VF_isNode_2 rfl (lv_at hl 0 rfl) ?_
  refine qa_get (k := 0) (i := 0) (f := 0) (val := .int (nI (qa_n y))) E hC Nat.one_pos rfl rfl (by decide) f_VF_13 rfl rfl d_VF_isNode_3 ?_
  refine lv_iconst (v := 1) hx hb d_VF_isNode_6 (by decide) ?_
  refine lv_isub hx hb d_VF_isNode_7 ?_
  refine qa_pT (As := [.int z, .int 0, .int ((nI (qa_n y)) - 1)]) F (c_VF_within l z 0 ((nI (qa_n y)) - 1)) k_VF_17 (qa_fitR (by decide) (by decide)) rfl hl.1 rfl (Nat.le_of_ble_eq_true rfl) d_VF_isNode_8 ?_
  exact qa_zret hx hb hr hlocks rfl (qb_nar _) d_VF_isNode_11

set_option maxHeartbeats 4000000 in
set_option maxRecDepth 100000 in
theorem c_VF_fitsInstruction (l : Launch) (y : qa_L) (v : qa_M) (op x : Int32) : qa_Pu l y_VF_fitsInstruction b_VF_fitsInstruction 3 (some .boolean) 2 [.ref (qa_a y 0 0), .int op, .int x] (qa_W y v) (qb (qm_fits (qa_n y) op x)) := by
  refine qa_ofPu (plainFor_of_name (by decide)) (Nat.le_of_ble_eq_true rfl) ?_
  intro p e s m below meth c ls F hr hlocks hW hl
  have E : qa_E p m c b_VF_fitsInstruction 3 s _ "VotedFrames" y := ⟨F, hW.2⟩
  have hC : qa_C y v s s.heap [] := ⟨hW.1, va_S.rf⟩
  have hx := F.1
  have hb := F.2.1
  have hown : s.vm.findClass "VotedFrames" = some m.cls := F.2.2.2.1
  have hts := F.2.2.2.2
  have hn4 : 4 ≤ qa_n y := E.2.1.2.2.1
  have hn7 : qa_n y ≤ 7 := E.2.1.2.2.2.1
  have hl : lv_has ls 3 [(0, .ref (qa_a y 0 0)), (1, .int op), (2, .int x)] := hl
  refine lv_iload_n hx hb d_VF_fitsInstruction_0 rfl (lv_at hl 1 rfl) ?_
  by_cases k1 : op = 1
  · refine lv_lookup (off := 35) (tgt := 36) hx hb d_VF_fitsInstruction_1 rfl (by rw [k1]; rfl) rfl ?_
    refine lv_aload_n hx hb d_VF_fitsInstruction_36 rfl (lv_at hl 0 rfl) ?_
    refine lv_iload_n hx hb d_VF_fitsInstruction_37 rfl (lv_at hl 2 rfl) ?_
    refine qa_pV (k := 0) (i := 0) (As := [.int x]) E hC (c_VF_isNode l y v x) Nat.one_pos rfl rfl k_VF_72 (qa_fitR (by decide) (by decide)) rfl hl.1 rfl (Nat.le_of_ble_eq_true rfl) d_VF_fitsInstruction_38 ?_
    exact qa_zret hx hb hr hlocks (by unfold qm_fits; first | (rw [if_pos k1]; done) | (rw [if_neg k1, if_pos k2]; done) | (rw [if_neg k1, if_neg k2, if_pos k8]; done) | (rw [if_neg k1, if_neg k2, if_neg k8]; rfl)) (qb_nar _) d_VF_fitsInstruction_41
  by_cases k2 : op = 2
  · refine lv_lookup (off := 41) (tgt := 42) hx hb d_VF_fitsInstruction_1 rfl (by rw [k2]; rfl) rfl ?_
    refine lv_iload_n hx hb d_VF_fitsInstruction_42 rfl (lv_at hl 2 rfl) ?_
    refine lv_iconst (v := 0) hx hb d_VF_fitsInstruction_43 (by decide) ?_
    refine lv_iconst (v := 3) hx hb d_VF_fitsInstruction_44 (by decide) ?_
    refine qa_pT (As := [.int x, .int 0, .int 3]) F (c_VF_within l x 0 3) k_VF_17 (qa_fitR (by decide) (by decide)) rfl hl.1 rfl (Nat.le_of_ble_eq_true rfl) d_VF_fitsInstruction_45 ?_
    exact qa_zret hx hb hr hlocks (by unfold qm_fits; first | (rw [if_pos k1]; done) | (rw [if_neg k1, if_pos k2]; done) | (rw [if_neg k1, if_neg k2, if_pos k8]; done) | (rw [if_neg k1, if_neg k2, if_neg k8]; rfl)) (qb_nar _) d_VF_fitsInstruction_48
  by_cases k8 : op = 8
  · refine lv_lookup (off := 48) (tgt := 49) hx hb d_VF_fitsInstruction_1 rfl (by rw [k8]; rfl) rfl ?_
    refine lv_iload_n hx hb d_VF_fitsInstruction_49 rfl (lv_at hl 2 rfl) ?_
    refine lv_iconst (v := 0) hx hb d_VF_fitsInstruction_50 (by decide) ?_
    refine lv_bipush (v := 11) hx hb d_VF_fitsInstruction_51 (by decide) ?_
    refine qa_pT (As := [.int x, .int 0, .int 11]) F (c_VF_within l x 0 11) k_VF_17 (qa_fitR (by decide) (by decide)) rfl hl.1 rfl (Nat.le_of_ble_eq_true rfl) d_VF_fitsInstruction_53 ?_
    exact qa_zret hx hb hr hlocks (by unfold qm_fits; first | (rw [if_pos k1]; done) | (rw [if_neg k1, if_pos k2]; done) | (rw [if_neg k1, if_neg k2, if_pos k8]; done) | (rw [if_neg k1, if_neg k2, if_neg k8]; rfl)) (qb_nar _) d_VF_fitsInstruction_56
  refine lv_lookup (off := 56) (tgt := 57) hx hb d_VF_fitsInstruction_1 rfl (show Op.lookupswitch.offset [(1, 35), (2, 41), (8, 48)] 56 _ = 56 from ((lv_osw k1 rfl).trans ((lv_osw k2 rfl).trans ((lv_osw k8 rfl).trans rfl)))) rfl ?_
  refine lv_iconst (v := 1) hx hb d_VF_fitsInstruction_57 (by decide) ?_
  exact qa_zret hx hb hr hlocks (by unfold qm_fits; first | (rw [if_pos k1]; done) | (rw [if_neg k1, if_pos k2]; done) | (rw [if_neg k1, if_neg k2, if_pos k8]; done) | (rw [if_neg k1, if_neg k2, if_neg k8]; rfl)) rfl d_VF_fitsInstruction_58

set_option maxHeartbeats 4000000 in
set_option maxRecDepth 100000 in
theorem c_VF_frame (l : Launch) (y : qa_L) (v : qa_M) : qa_Pu l y_VF_frame b_VF_frame 1 (some .int) 0 [.ref (qa_a y 0 0)] (qa_W y v) (v 0 0 11) := by
  refine qa_ofPu (plainFor_of_name (by decide)) (Nat.le_of_ble_eq_true rfl) ?_
  intro p e s m below meth c ls F hr hlocks hW hl
  have E : qa_E p m c b_VF_frame 1 s _ "VotedFrames" y := ⟨F, hW.2⟩
  have hC : qa_C y v s s.heap [] := ⟨hW.1, va_S.rf⟩
  have hx := F.1
  have hb := F.2.1
  have hown : s.vm.findClass "VotedFrames" = some m.cls := F.2.2.2.1
  have hts := F.2.2.2.2
  have hn4 : 4 ≤ qa_n y := E.2.1.2.2.1
  have hn7 : qa_n y ≤ 7 := E.2.1.2.2.2.1
  have hl : lv_has ls 1 [(0, .ref (qa_a y 0 0))] := hl
  refine lv_aload_n hx hb d_VF_frame_0 rfl (lv_at hl 0 rfl) ?_
  refine qa_get (k := 0) (i := 0) (f := 11) (val := .int (v 0 0 11)) E hC Nat.one_pos rfl rfl (by decide) f_VF_127 rfl rfl d_VF_frame_1 ?_
  exact qa_iret hx hb hr hlocks rfl d_VF_frame_4

set_option maxHeartbeats 4000000 in
set_option maxRecDepth 100000 in
theorem c_VF_reading (l : Launch) (y : qa_L) (v : qa_M) (z : Int32) : qa_Pu l y_VF_reading b_VF_reading 2 (some .int) 2 [.ref (qa_a y 0 0), .int z] (qa_W y v) (if qm_isn (qa_n y) z = true then v 2 (qm_ix z) 6 else 0) := by
  refine qa_ofPu (plainFor_of_name (by decide)) (Nat.le_of_ble_eq_true rfl) ?_
  intro p e s m below meth c ls F hr hlocks hW hl
  have E : qa_E p m c b_VF_reading 2 s _ "VotedFrames" y := ⟨F, hW.2⟩
  have hC : qa_C y v s s.heap [] := ⟨hW.1, va_S.rf⟩
  have hx := F.1
  have hb := F.2.1
  have hown : s.vm.findClass "VotedFrames" = some m.cls := F.2.2.2.1
  have hts := F.2.2.2.2
  have hn4 : 4 ≤ qa_n y := E.2.1.2.2.1
  have hn7 : qa_n y ≤ 7 := E.2.1.2.2.2.1
  have hl : lv_has ls 2 [(0, .ref (qa_a y 0 0)), (1, .int z)] := hl
  by_cases g1 : qm_isn (qa_n y) z = true
  · obtain ⟨i, hi, rfl⟩ := qm_wi_n (by omega) (by omega) g1
    have hl : lv_has ls 2 [(0, .ref (qa_a y 0 0)), (1, .int (nI i))] := hl
    refine lv_aload_n hx hb d_VF_reading_0 rfl (lv_at hl 0 rfl) ?_
    refine lv_iload_n hx hb d_VF_reading_1 rfl (lv_at hl 1 rfl) ?_
    refine qa_pV (k := 0) (i := 0) (As := [.int (nI i)]) E hC (c_VF_isNode l y v (nI i)) Nat.one_pos rfl rfl k_VF_72 (qa_fitR (by decide) (by decide)) rfl hl.1 rfl (Nat.le_of_ble_eq_true rfl) d_VF_reading_2 ?_
    refine lv_if_eq hx hb d_VF_reading_5 rfl (fun h9 => absurd h9 (qb_nz g1)) (fun _ => ?_)
    refine lv_aload_n hx hb d_VF_reading_8 rfl (lv_at hl 0 rfl) ?_
    refine qa_get (k := 0) (i := 0) (f := 3) (val := .ref (qa_a y 1 0)) E hC Nat.one_pos rfl rfl (by decide) f_VF_31 rfl rfl d_VF_reading_9 ?_
    refine lv_iload_n hx hb d_VF_reading_12 rfl (lv_at hl 1 rfl) ?_
    refine qa_ald (k := 1) (i := 0) (j := i) E hC Nat.one_pos rfl rfl rfl rfl rfl hi d_VF_reading_13 ?_
    refine qa_get (k := 2) (i := i) (f := 6) (val := .int (v 2 i 6)) E hC hi rfl rfl (by decide) f_VF_80 rfl rfl d_VF_reading_14 ?_
    refine lv_goto hx hb d_VF_reading_17 rfl ?_
    exact qa_iret hx hb hr hlocks (by rw [if_pos g1, qm_ix_n (by omega)]) d_VF_reading_21
  · refine lv_aload_n hx hb d_VF_reading_0 rfl (lv_at hl 0 rfl) ?_
    refine lv_iload_n hx hb d_VF_reading_1 rfl (lv_at hl 1 rfl) ?_
    refine qa_pV (k := 0) (i := 0) (As := [.int z]) E hC (c_VF_isNode l y v z) Nat.one_pos rfl rfl k_VF_72 (qa_fitR (by decide) (by decide)) rfl hl.1 rfl (Nat.le_of_ble_eq_true rfl) d_VF_reading_2 ?_
    refine lv_if_eq hx hb d_VF_reading_5 rfl (fun _ => ?_) (fun h9 => absurd (qb_zf (Bool.eq_false_iff.mpr g1)) h9)
    refine lv_iconst (v := 0) hx hb d_VF_reading_20 (by decide) ?_
    exact qa_iret hx hb hr hlocks (by rw [if_neg g1]) d_VF_reading_21

set_option maxHeartbeats 4000000 in
set_option maxRecDepth 100000 in
theorem c_VF_correction (l : Launch) (y : qa_L) (v : qa_M) (z : Int32) : qa_Pu l y_VF_correction b_VF_correction 2 (some .int) 2 [.ref (qa_a y 0 0), .int z] (qa_W y v) (if qm_isn (qa_n y) z = true then v 2 (qm_ix z) 14 else 0) := by
  refine qa_ofPu (plainFor_of_name (by decide)) (Nat.le_of_ble_eq_true rfl) ?_
  intro p e s m below meth c ls F hr hlocks hW hl
  have E : qa_E p m c b_VF_correction 2 s _ "VotedFrames" y := ⟨F, hW.2⟩
  have hC : qa_C y v s s.heap [] := ⟨hW.1, va_S.rf⟩
  have hx := F.1
  have hb := F.2.1
  have hown : s.vm.findClass "VotedFrames" = some m.cls := F.2.2.2.1
  have hts := F.2.2.2.2
  have hn4 : 4 ≤ qa_n y := E.2.1.2.2.1
  have hn7 : qa_n y ≤ 7 := E.2.1.2.2.2.1
  have hl : lv_has ls 2 [(0, .ref (qa_a y 0 0)), (1, .int z)] := hl
  by_cases g1 : qm_isn (qa_n y) z = true
  · obtain ⟨i, hi, rfl⟩ := qm_wi_n (by omega) (by omega) g1
    have hl : lv_has ls 2 [(0, .ref (qa_a y 0 0)), (1, .int (nI i))] := hl
    refine lv_aload_n hx hb d_VF_correction_0 rfl (lv_at hl 0 rfl) ?_
    refine lv_iload_n hx hb d_VF_correction_1 rfl (lv_at hl 1 rfl) ?_
    refine qa_pV (k := 0) (i := 0) (As := [.int (nI i)]) E hC (c_VF_isNode l y v (nI i)) Nat.one_pos rfl rfl k_VF_72 (qa_fitR (by decide) (by decide)) rfl hl.1 rfl (Nat.le_of_ble_eq_true rfl) d_VF_correction_2 ?_
    refine lv_if_eq hx hb d_VF_correction_5 rfl (fun h9 => absurd h9 (qb_nz g1)) (fun _ => ?_)
    refine lv_aload_n hx hb d_VF_correction_8 rfl (lv_at hl 0 rfl) ?_
    refine qa_get (k := 0) (i := 0) (f := 3) (val := .ref (qa_a y 1 0)) E hC Nat.one_pos rfl rfl (by decide) f_VF_31 rfl rfl d_VF_correction_9 ?_
    refine lv_iload_n hx hb d_VF_correction_12 rfl (lv_at hl 1 rfl) ?_
    refine qa_ald (k := 1) (i := 0) (j := i) E hC Nat.one_pos rfl rfl rfl rfl rfl hi d_VF_correction_13 ?_
    refine qa_get (k := 2) (i := i) (f := 14) (val := .int (v 2 i 14)) E hC hi rfl rfl (by decide) f_VF_130 rfl rfl d_VF_correction_14 ?_
    refine lv_goto hx hb d_VF_correction_17 rfl ?_
    exact qa_iret hx hb hr hlocks (by rw [if_pos g1, qm_ix_n (by omega)]) d_VF_correction_21
  · refine lv_aload_n hx hb d_VF_correction_0 rfl (lv_at hl 0 rfl) ?_
    refine lv_iload_n hx hb d_VF_correction_1 rfl (lv_at hl 1 rfl) ?_
    refine qa_pV (k := 0) (i := 0) (As := [.int z]) E hC (c_VF_isNode l y v z) Nat.one_pos rfl rfl k_VF_72 (qa_fitR (by decide) (by decide)) rfl hl.1 rfl (Nat.le_of_ble_eq_true rfl) d_VF_correction_2 ?_
    refine lv_if_eq hx hb d_VF_correction_5 rfl (fun _ => ?_) (fun h9 => absurd (qb_zf (Bool.eq_false_iff.mpr g1)) h9)
    refine lv_iconst (v := 0) hx hb d_VF_correction_20 (by decide) ?_
    exact qa_iret hx hb hr hlocks (by rw [if_neg g1]) d_VF_correction_21

set_option maxHeartbeats 4000000 in
set_option maxRecDepth 100000 in
theorem c_VF_members (l : Launch) (y : qa_L) (v : qa_M) (z : Int32) : qa_Pu l y_VF_members b_VF_members 2 (some .int) 2 [.ref (qa_a y 0 0), .int z] (qa_W y v) (if qm_isn (qa_n y) z = true then v 2 (qm_ix z) 11 else 0) := by
  refine qa_ofPu (plainFor_of_name (by decide)) (Nat.le_of_ble_eq_true rfl) ?_
  intro p e s m below meth c ls F hr hlocks hW hl
  have E : qa_E p m c b_VF_members 2 s _ "VotedFrames" y := ⟨F, hW.2⟩
  have hC : qa_C y v s s.heap [] := ⟨hW.1, va_S.rf⟩
  have hx := F.1
  have hb := F.2.1
  have hown : s.vm.findClass "VotedFrames" = some m.cls := F.2.2.2.1
  have hts := F.2.2.2.2
  have hn4 : 4 ≤ qa_n y := E.2.1.2.2.1
  have hn7 : qa_n y ≤ 7 := E.2.1.2.2.2.1
  have hl : lv_has ls 2 [(0, .ref (qa_a y 0 0)), (1, .int z)] := hl
  by_cases g1 : qm_isn (qa_n y) z = true
  · obtain ⟨i, hi, rfl⟩ := qm_wi_n (by omega) (by omega) g1
    have hl : lv_has ls 2 [(0, .ref (qa_a y 0 0)), (1, .int (nI i))] := hl
    refine lv_aload_n hx hb d_VF_members_0 rfl (lv_at hl 0 rfl) ?_
    refine lv_iload_n hx hb d_VF_members_1 rfl (lv_at hl 1 rfl) ?_
    refine qa_pV (k := 0) (i := 0) (As := [.int (nI i)]) E hC (c_VF_isNode l y v (nI i)) Nat.one_pos rfl rfl k_VF_72 (qa_fitR (by decide) (by decide)) rfl hl.1 rfl (Nat.le_of_ble_eq_true rfl) d_VF_members_2 ?_
    refine lv_if_eq hx hb d_VF_members_5 rfl (fun h9 => absurd h9 (qb_nz g1)) (fun _ => ?_)
    refine lv_aload_n hx hb d_VF_members_8 rfl (lv_at hl 0 rfl) ?_
    refine qa_get (k := 0) (i := 0) (f := 3) (val := .ref (qa_a y 1 0)) E hC Nat.one_pos rfl rfl (by decide) f_VF_31 rfl rfl d_VF_members_9 ?_
    refine lv_iload_n hx hb d_VF_members_12 rfl (lv_at hl 1 rfl) ?_
    refine qa_ald (k := 1) (i := 0) (j := i) E hC Nat.one_pos rfl rfl rfl rfl rfl hi d_VF_members_13 ?_
    refine qa_get (k := 2) (i := i) (f := 11) (val := .int (v 2 i 11)) E hC hi rfl rfl (by decide) f_VF_142 rfl rfl d_VF_members_14 ?_
    refine lv_goto hx hb d_VF_members_17 rfl ?_
    exact qa_iret hx hb hr hlocks (by rw [if_pos g1, qm_ix_n (by omega)]) d_VF_members_21
  · refine lv_aload_n hx hb d_VF_members_0 rfl (lv_at hl 0 rfl) ?_
    refine lv_iload_n hx hb d_VF_members_1 rfl (lv_at hl 1 rfl) ?_
    refine qa_pV (k := 0) (i := 0) (As := [.int z]) E hC (c_VF_isNode l y v z) Nat.one_pos rfl rfl k_VF_72 (qa_fitR (by decide) (by decide)) rfl hl.1 rfl (Nat.le_of_ble_eq_true rfl) d_VF_members_2 ?_
    refine lv_if_eq hx hb d_VF_members_5 rfl (fun _ => ?_) (fun h9 => absurd (qb_zf (Bool.eq_false_iff.mpr g1)) h9)
    refine lv_iconst (v := 0) hx hb d_VF_members_20 (by decide) ?_
    exact qa_iret hx hb hr hlocks (by rw [if_neg g1]) d_VF_members_21

set_option maxHeartbeats 4000000 in
set_option maxRecDepth 100000 in
theorem c_VF_accused (l : Launch) (y : qa_L) (v : qa_M) (z : Int32) : qa_Pu l y_VF_accused b_VF_accused 2 (some .int) 2 [.ref (qa_a y 0 0), .int z] (qa_W y v) (if qm_isn (qa_n y) z = true then v 2 (qm_ix z) 13 else 0) := by
  refine qa_ofPu (plainFor_of_name (by decide)) (Nat.le_of_ble_eq_true rfl) ?_
  intro p e s m below meth c ls F hr hlocks hW hl
  have E : qa_E p m c b_VF_accused 2 s _ "VotedFrames" y := ⟨F, hW.2⟩
  have hC : qa_C y v s s.heap [] := ⟨hW.1, va_S.rf⟩
  have hx := F.1
  have hb := F.2.1
  have hown : s.vm.findClass "VotedFrames" = some m.cls := F.2.2.2.1
  have hts := F.2.2.2.2
  have hn4 : 4 ≤ qa_n y := E.2.1.2.2.1
  have hn7 : qa_n y ≤ 7 := E.2.1.2.2.2.1
  have hl : lv_has ls 2 [(0, .ref (qa_a y 0 0)), (1, .int z)] := hl
  by_cases g1 : qm_isn (qa_n y) z = true
  · obtain ⟨i, hi, rfl⟩ := qm_wi_n (by omega) (by omega) g1
    have hl : lv_has ls 2 [(0, .ref (qa_a y 0 0)), (1, .int (nI i))] := hl
    refine lv_aload_n hx hb d_VF_accused_0 rfl (lv_at hl 0 rfl) ?_
    refine lv_iload_n hx hb d_VF_accused_1 rfl (lv_at hl 1 rfl) ?_
    refine qa_pV (k := 0) (i := 0) (As := [.int (nI i)]) E hC (c_VF_isNode l y v (nI i)) Nat.one_pos rfl rfl k_VF_72 (qa_fitR (by decide) (by decide)) rfl hl.1 rfl (Nat.le_of_ble_eq_true rfl) d_VF_accused_2 ?_
    refine lv_if_eq hx hb d_VF_accused_5 rfl (fun h9 => absurd h9 (qb_nz g1)) (fun _ => ?_)
    refine lv_aload_n hx hb d_VF_accused_8 rfl (lv_at hl 0 rfl) ?_
    refine qa_get (k := 0) (i := 0) (f := 3) (val := .ref (qa_a y 1 0)) E hC Nat.one_pos rfl rfl (by decide) f_VF_31 rfl rfl d_VF_accused_9 ?_
    refine lv_iload_n hx hb d_VF_accused_12 rfl (lv_at hl 1 rfl) ?_
    refine qa_ald (k := 1) (i := 0) (j := i) E hC Nat.one_pos rfl rfl rfl rfl rfl hi d_VF_accused_13 ?_
    refine qa_get (k := 2) (i := i) (f := 13) (val := .int (v 2 i 13)) E hC hi rfl rfl (by decide) f_VF_149 rfl rfl d_VF_accused_14 ?_
    refine lv_goto hx hb d_VF_accused_17 rfl ?_
    exact qa_iret hx hb hr hlocks (by rw [if_pos g1, qm_ix_n (by omega)]) d_VF_accused_21
  · refine lv_aload_n hx hb d_VF_accused_0 rfl (lv_at hl 0 rfl) ?_
    refine lv_iload_n hx hb d_VF_accused_1 rfl (lv_at hl 1 rfl) ?_
    refine qa_pV (k := 0) (i := 0) (As := [.int z]) E hC (c_VF_isNode l y v z) Nat.one_pos rfl rfl k_VF_72 (qa_fitR (by decide) (by decide)) rfl hl.1 rfl (Nat.le_of_ble_eq_true rfl) d_VF_accused_2 ?_
    refine lv_if_eq hx hb d_VF_accused_5 rfl (fun _ => ?_) (fun h9 => absurd (qb_zf (Bool.eq_false_iff.mpr g1)) h9)
    refine lv_iconst (v := 0) hx hb d_VF_accused_20 (by decide) ?_
    exact qa_iret hx hb hr hlocks (by rw [if_neg g1]) d_VF_accused_21

set_option maxHeartbeats 4000000 in
set_option maxRecDepth 100000 in
theorem c_VF_bears (l : Launch) (y : qa_L) (v : qa_M) (z : Int32) : qa_Pu l y_VF_bears b_VF_bears 2 (some .int) 3 [.ref (qa_a y 0 0), .int z] (qa_W y v) (if qm_isn (qa_n y) z = true then qm_min (nI (qa_m y)) ((qm_bc (v 2 (qm_ix z) 11) - 1) / 3) else 0) := by
  refine qa_ofPu (plainFor_of_name (by decide)) (Nat.le_of_ble_eq_true rfl) ?_
  intro p e s m below meth c ls F hr hlocks hW hl
  have E : qa_E p m c b_VF_bears 2 s _ "VotedFrames" y := ⟨F, hW.2⟩
  have hC : qa_C y v s s.heap [] := ⟨hW.1, va_S.rf⟩
  have hx := F.1
  have hb := F.2.1
  have hown : s.vm.findClass "VotedFrames" = some m.cls := F.2.2.2.1
  have hts := F.2.2.2.2
  have hn4 : 4 ≤ qa_n y := E.2.1.2.2.1
  have hn7 : qa_n y ≤ 7 := E.2.1.2.2.2.1
  have hl : lv_has ls 2 [(0, .ref (qa_a y 0 0)), (1, .int z)] := hl
  by_cases g1 : qm_isn (qa_n y) z = true
  · obtain ⟨i, hi, rfl⟩ := qm_wi_n (by omega) (by omega) g1
    have hl : lv_has ls 2 [(0, .ref (qa_a y 0 0)), (1, .int (nI i))] := hl
    refine lv_aload_n hx hb d_VF_bears_0 rfl (lv_at hl 0 rfl) ?_
    refine lv_iload_n hx hb d_VF_bears_1 rfl (lv_at hl 1 rfl) ?_
    refine qa_pV (k := 0) (i := 0) (As := [.int (nI i)]) E hC (c_VF_isNode l y v (nI i)) Nat.one_pos rfl rfl k_VF_72 (qa_fitR (by decide) (by decide)) rfl hl.1 rfl (Nat.le_of_ble_eq_true rfl) d_VF_bears_2 ?_
    refine lv_if_eq hx hb d_VF_bears_5 rfl (fun h9 => absurd h9 (qb_nz g1)) (fun _ => ?_)
    refine lv_aload_n hx hb d_VF_bears_8 rfl (lv_at hl 0 rfl) ?_
    refine qa_get (k := 0) (i := 0) (f := 3) (val := .ref (qa_a y 1 0)) E hC Nat.one_pos rfl rfl (by decide) f_VF_31 rfl rfl d_VF_bears_9 ?_
    refine lv_iload_n hx hb d_VF_bears_12 rfl (lv_at hl 1 rfl) ?_
    refine qa_ald (k := 1) (i := 0) (j := i) E hC Nat.one_pos rfl rfl rfl rfl rfl hi d_VF_bears_13 ?_
    refine lv_aload_n hx hb d_VF_bears_14 rfl (lv_at hl 0 rfl) ?_
    refine qa_get (k := 0) (i := 0) (f := 1) (val := .int (nI (qa_m y))) E hC Nat.one_pos rfl rfl (by decide) f_VF_21 rfl rfl d_VF_bears_15 ?_
    refine qa_pV (k := 2) (i := i) (As := [.int (nI (qa_m y))]) E hC (c_ND_bearable l y v i (nI (qa_m y)) hi) hi rfl rfl k_VF_145 (qa_fitR (by decide) (by decide)) rfl hl.1 rfl (Nat.le_of_ble_eq_true rfl) d_VF_bears_18 ?_
    refine lv_goto hx hb d_VF_bears_21 rfl ?_
    exact qa_iret hx hb hr hlocks (by rw [if_pos g1, qm_ix_n (by omega)]) d_VF_bears_25
  · refine lv_aload_n hx hb d_VF_bears_0 rfl (lv_at hl 0 rfl) ?_
    refine lv_iload_n hx hb d_VF_bears_1 rfl (lv_at hl 1 rfl) ?_
    refine qa_pV (k := 0) (i := 0) (As := [.int z]) E hC (c_VF_isNode l y v z) Nat.one_pos rfl rfl k_VF_72 (qa_fitR (by decide) (by decide)) rfl hl.1 rfl (Nat.le_of_ble_eq_true rfl) d_VF_bears_2 ?_
    refine lv_if_eq hx hb d_VF_bears_5 rfl (fun _ => ?_) (fun h9 => absurd (qb_zf (Bool.eq_false_iff.mpr g1)) h9)
    refine lv_iconst (v := 0) hx hb d_VF_bears_24 (by decide) ?_
    exact qa_iret hx hb hr hlocks (by rw [if_neg g1]) d_VF_bears_25

set_option maxHeartbeats 4000000 in
set_option maxRecDepth 100000 in
theorem c_VF_input (l : Launch) (y : qa_L) (v : qa_M) (z z2 : Int32) : qa_Pu l y_VF_input b_VF_input 3 (some .int) 2 [.ref (qa_a y 0 0), .int z, .int z2] (qa_W y v) (if qm_isn (qa_n y) z = true ∧ qm_isn (qa_n y) z2 = true then v 5 (qm_ix z) (qm_ix z2) else 0) := by
  refine qa_ofPu (plainFor_of_name (by decide)) (Nat.le_of_ble_eq_true rfl) ?_
  intro p e s m below meth c ls F hr hlocks hW hl
  have E : qa_E p m c b_VF_input 3 s _ "VotedFrames" y := ⟨F, hW.2⟩
  have hC : qa_C y v s s.heap [] := ⟨hW.1, va_S.rf⟩
  have hx := F.1
  have hb := F.2.1
  have hown : s.vm.findClass "VotedFrames" = some m.cls := F.2.2.2.1
  have hts := F.2.2.2.2
  have hn4 : 4 ≤ qa_n y := E.2.1.2.2.1
  have hn7 : qa_n y ≤ 7 := E.2.1.2.2.2.1
  have hl : lv_has ls 3 [(0, .ref (qa_a y 0 0)), (1, .int z), (2, .int z2)] := hl
  by_cases g1 : qm_isn (qa_n y) z = true
  · obtain ⟨i, hi, rfl⟩ := qm_wi_n (by omega) (by omega) g1
    by_cases g2 : qm_isn (qa_n y) z2 = true
    · obtain ⟨j, hj, rfl⟩ := qm_wi_n (by omega) (by omega) g2
      have hl : lv_has ls 3 [(0, .ref (qa_a y 0 0)), (1, .int (nI i)), (2, .int (nI j))] := hl
      refine lv_aload_n hx hb d_VF_input_0 rfl (lv_at hl 0 rfl) ?_
      refine lv_iload_n hx hb d_VF_input_1 rfl (lv_at hl 1 rfl) ?_
      refine qa_pV (k := 0) (i := 0) (As := [.int (nI i)]) E hC (c_VF_isNode l y v (nI i)) Nat.one_pos rfl rfl k_VF_72 (qa_fitR (by decide) (by decide)) rfl hl.1 rfl (Nat.le_of_ble_eq_true rfl) d_VF_input_2 ?_
      refine lv_if_eq hx hb d_VF_input_5 rfl (fun h9 => absurd h9 (qb_nz g1)) (fun _ => ?_)
      refine lv_aload_n hx hb d_VF_input_8 rfl (lv_at hl 0 rfl) ?_
      refine lv_iload_n hx hb d_VF_input_9 rfl (lv_at hl 2 rfl) ?_
      refine qa_pV (k := 0) (i := 0) (As := [.int (nI j)]) E hC (c_VF_isNode l y v (nI j)) Nat.one_pos rfl rfl k_VF_72 (qa_fitR (by decide) (by decide)) rfl hl.1 rfl (Nat.le_of_ble_eq_true rfl) d_VF_input_10 ?_
      refine lv_if_eq hx hb d_VF_input_13 rfl (fun h9 => absurd h9 (qb_nz g2)) (fun _ => ?_)
      refine lv_aload_n hx hb d_VF_input_16 rfl (lv_at hl 0 rfl) ?_
      refine qa_get (k := 0) (i := 0) (f := 3) (val := .ref (qa_a y 1 0)) E hC Nat.one_pos rfl rfl (by decide) f_VF_31 rfl rfl d_VF_input_17 ?_
      refine lv_iload_n hx hb d_VF_input_20 rfl (lv_at hl 1 rfl) ?_
      refine qa_ald (k := 1) (i := 0) (j := i) E hC Nat.one_pos rfl rfl rfl rfl rfl hi d_VF_input_21 ?_
      refine qa_get (k := 2) (i := i) (f := 3) (val := .ref (qa_a y 5 i)) E hC hi rfl rfl (by decide) f_VF_133 rfl rfl d_VF_input_22 ?_
      refine lv_iload_n hx hb d_VF_input_25 rfl (lv_at hl 2 rfl) ?_
      refine qa_ild (k := 5) (i := i) (j := j) E hC hi rfl rfl rfl hj d_VF_input_26 ?_
      refine lv_goto hx hb d_VF_input_27 rfl ?_
      exact qa_iret hx hb hr hlocks (by rw [if_pos ⟨g1, g2⟩, qm_ix_n (by omega), qm_ix_n (by omega)]) d_VF_input_31
    · have hl : lv_has ls 3 [(0, .ref (qa_a y 0 0)), (1, .int (nI i)), (2, .int z2)] := hl
      refine lv_aload_n hx hb d_VF_input_0 rfl (lv_at hl 0 rfl) ?_
      refine lv_iload_n hx hb d_VF_input_1 rfl (lv_at hl 1 rfl) ?_
      refine qa_pV (k := 0) (i := 0) (As := [.int (nI i)]) E hC (c_VF_isNode l y v (nI i)) Nat.one_pos rfl rfl k_VF_72 (qa_fitR (by decide) (by decide)) rfl hl.1 rfl (Nat.le_of_ble_eq_true rfl) d_VF_input_2 ?_
      refine lv_if_eq hx hb d_VF_input_5 rfl (fun h9 => absurd h9 (qb_nz g1)) (fun _ => ?_)
      refine lv_aload_n hx hb d_VF_input_8 rfl (lv_at hl 0 rfl) ?_
      refine lv_iload_n hx hb d_VF_input_9 rfl (lv_at hl 2 rfl) ?_
      refine qa_pV (k := 0) (i := 0) (As := [.int z2]) E hC (c_VF_isNode l y v z2) Nat.one_pos rfl rfl k_VF_72 (qa_fitR (by decide) (by decide)) rfl hl.1 rfl (Nat.le_of_ble_eq_true rfl) d_VF_input_10 ?_
      refine lv_if_eq hx hb d_VF_input_13 rfl (fun _ => ?_) (fun h9 => absurd (qb_zf (Bool.eq_false_iff.mpr g2)) h9)
      refine lv_iconst (v := 0) hx hb d_VF_input_30 (by decide) ?_
      exact qa_iret hx hb hr hlocks (by rw [if_neg (fun q => g2 q.2)]) d_VF_input_31
  · refine lv_aload_n hx hb d_VF_input_0 rfl (lv_at hl 0 rfl) ?_
    refine lv_iload_n hx hb d_VF_input_1 rfl (lv_at hl 1 rfl) ?_
    refine qa_pV (k := 0) (i := 0) (As := [.int z]) E hC (c_VF_isNode l y v z) Nat.one_pos rfl rfl k_VF_72 (qa_fitR (by decide) (by decide)) rfl hl.1 rfl (Nat.le_of_ble_eq_true rfl) d_VF_input_2 ?_
    refine lv_if_eq hx hb d_VF_input_5 rfl (fun _ => ?_) (fun h9 => absurd (qb_zf (Bool.eq_false_iff.mpr g1)) h9)
    refine lv_iconst (v := 0) hx hb d_VF_input_30 (by decide) ?_
    exact qa_iret hx hb hr hlocks (by rw [if_neg (fun q => g1 q.1)]) d_VF_input_31

set_option maxHeartbeats 4000000 in
set_option maxRecDepth 100000 in
theorem c_VF_charge (l : Launch) (y : qa_L) (v : qa_M) (z z2 : Int32) : qa_Pu l y_VF_charge b_VF_charge 3 (some .int) 2 [.ref (qa_a y 0 0), .int z, .int z2] (qa_W y v) (if qm_isn (qa_n y) z = true ∧ qm_isn (qa_n y) z2 = true then v 6 (qm_ix z) (qm_ix z2) else 0) := by
  refine qa_ofPu (plainFor_of_name (by decide)) (Nat.le_of_ble_eq_true rfl) ?_
  intro p e s m below meth c ls F hr hlocks hW hl
  have E : qa_E p m c b_VF_charge 3 s _ "VotedFrames" y := ⟨F, hW.2⟩
  have hC : qa_C y v s s.heap [] := ⟨hW.1, va_S.rf⟩
  have hx := F.1
  have hb := F.2.1
  have hown : s.vm.findClass "VotedFrames" = some m.cls := F.2.2.2.1
  have hts := F.2.2.2.2
  have hn4 : 4 ≤ qa_n y := E.2.1.2.2.1
  have hn7 : qa_n y ≤ 7 := E.2.1.2.2.2.1
  have hl : lv_has ls 3 [(0, .ref (qa_a y 0 0)), (1, .int z), (2, .int z2)] := hl
  by_cases g1 : qm_isn (qa_n y) z = true
  · obtain ⟨i, hi, rfl⟩ := qm_wi_n (by omega) (by omega) g1
    by_cases g2 : qm_isn (qa_n y) z2 = true
    · obtain ⟨j, hj, rfl⟩ := qm_wi_n (by omega) (by omega) g2
      have hl : lv_has ls 3 [(0, .ref (qa_a y 0 0)), (1, .int (nI i)), (2, .int (nI j))] := hl
      refine lv_aload_n hx hb d_VF_charge_0 rfl (lv_at hl 0 rfl) ?_
      refine lv_iload_n hx hb d_VF_charge_1 rfl (lv_at hl 1 rfl) ?_
      refine qa_pV (k := 0) (i := 0) (As := [.int (nI i)]) E hC (c_VF_isNode l y v (nI i)) Nat.one_pos rfl rfl k_VF_72 (qa_fitR (by decide) (by decide)) rfl hl.1 rfl (Nat.le_of_ble_eq_true rfl) d_VF_charge_2 ?_
      refine lv_if_eq hx hb d_VF_charge_5 rfl (fun h9 => absurd h9 (qb_nz g1)) (fun _ => ?_)
      refine lv_aload_n hx hb d_VF_charge_8 rfl (lv_at hl 0 rfl) ?_
      refine lv_iload_n hx hb d_VF_charge_9 rfl (lv_at hl 2 rfl) ?_
      refine qa_pV (k := 0) (i := 0) (As := [.int (nI j)]) E hC (c_VF_isNode l y v (nI j)) Nat.one_pos rfl rfl k_VF_72 (qa_fitR (by decide) (by decide)) rfl hl.1 rfl (Nat.le_of_ble_eq_true rfl) d_VF_charge_10 ?_
      refine lv_if_eq hx hb d_VF_charge_13 rfl (fun h9 => absurd h9 (qb_nz g2)) (fun _ => ?_)
      refine lv_aload_n hx hb d_VF_charge_16 rfl (lv_at hl 0 rfl) ?_
      refine qa_get (k := 0) (i := 0) (f := 3) (val := .ref (qa_a y 1 0)) E hC Nat.one_pos rfl rfl (by decide) f_VF_31 rfl rfl d_VF_charge_17 ?_
      refine lv_iload_n hx hb d_VF_charge_20 rfl (lv_at hl 1 rfl) ?_
      refine qa_ald (k := 1) (i := 0) (j := i) E hC Nat.one_pos rfl rfl rfl rfl rfl hi d_VF_charge_21 ?_
      refine qa_get (k := 2) (i := i) (f := 4) (val := .ref (qa_a y 6 i)) E hC hi rfl rfl (by decide) f_VF_136 rfl rfl d_VF_charge_22 ?_
      refine lv_iload_n hx hb d_VF_charge_25 rfl (lv_at hl 2 rfl) ?_
      refine qa_ild (k := 6) (i := i) (j := j) E hC hi rfl rfl rfl hj d_VF_charge_26 ?_
      refine lv_goto hx hb d_VF_charge_27 rfl ?_
      exact qa_iret hx hb hr hlocks (by rw [if_pos ⟨g1, g2⟩, qm_ix_n (by omega), qm_ix_n (by omega)]) d_VF_charge_31
    · have hl : lv_has ls 3 [(0, .ref (qa_a y 0 0)), (1, .int (nI i)), (2, .int z2)] := hl
      refine lv_aload_n hx hb d_VF_charge_0 rfl (lv_at hl 0 rfl) ?_
      refine lv_iload_n hx hb d_VF_charge_1 rfl (lv_at hl 1 rfl) ?_
      refine qa_pV (k := 0) (i := 0) (As := [.int (nI i)]) E hC (c_VF_isNode l y v (nI i)) Nat.one_pos rfl rfl k_VF_72 (qa_fitR (by decide) (by decide)) rfl hl.1 rfl (Nat.le_of_ble_eq_true rfl) d_VF_charge_2 ?_
      refine lv_if_eq hx hb d_VF_charge_5 rfl (fun h9 => absurd h9 (qb_nz g1)) (fun _ => ?_)
      refine lv_aload_n hx hb d_VF_charge_8 rfl (lv_at hl 0 rfl) ?_
      refine lv_iload_n hx hb d_VF_charge_9 rfl (lv_at hl 2 rfl) ?_
      refine qa_pV (k := 0) (i := 0) (As := [.int z2]) E hC (c_VF_isNode l y v z2) Nat.one_pos rfl rfl k_VF_72 (qa_fitR (by decide) (by decide)) rfl hl.1 rfl (Nat.le_of_ble_eq_true rfl) d_VF_charge_10 ?_
      refine lv_if_eq hx hb d_VF_charge_13 rfl (fun _ => ?_) (fun h9 => absurd (qb_zf (Bool.eq_false_iff.mpr g2)) h9)
      refine lv_iconst (v := 0) hx hb d_VF_charge_30 (by decide) ?_
      exact qa_iret hx hb hr hlocks (by rw [if_neg (fun q => g2 q.2)]) d_VF_charge_31
  · refine lv_aload_n hx hb d_VF_charge_0 rfl (lv_at hl 0 rfl) ?_
    refine lv_iload_n hx hb d_VF_charge_1 rfl (lv_at hl 1 rfl) ?_
    refine qa_pV (k := 0) (i := 0) (As := [.int z]) E hC (c_VF_isNode l y v z) Nat.one_pos rfl rfl k_VF_72 (qa_fitR (by decide) (by decide)) rfl hl.1 rfl (Nat.le_of_ble_eq_true rfl) d_VF_charge_2 ?_
    refine lv_if_eq hx hb d_VF_charge_5 rfl (fun _ => ?_) (fun h9 => absurd (qb_zf (Bool.eq_false_iff.mpr g1)) h9)
    refine lv_iconst (v := 0) hx hb d_VF_charge_30 (by decide) ?_
    exact qa_iret hx hb hr hlocks (by rw [if_neg (fun q => g1 q.1)]) d_VF_charge_31

set_option maxHeartbeats 4000000 in
set_option maxRecDepth 100000 in
theorem c_VF_word (l : Launch) (y : qa_L) (v : qa_M) (z z2 : Int32) : qa_Pu l y_VF_word b_VF_word 3 (some .int) 2 [.ref (qa_a y 0 0), .int z, .int z2] (qa_W y v) (if qm_isn (qa_n y) z = true ∧ qm_wi z2 0 3 = true then v 7 (qm_ix z) (qm_ix z2) else 0) := by
  refine qa_ofPu (plainFor_of_name (by decide)) (Nat.le_of_ble_eq_true rfl) ?_
  intro p e s m below meth c ls F hr hlocks hW hl
  have E : qa_E p m c b_VF_word 3 s _ "VotedFrames" y := ⟨F, hW.2⟩
  have hC : qa_C y v s s.heap [] := ⟨hW.1, va_S.rf⟩
  have hx := F.1
  have hb := F.2.1
  have hown : s.vm.findClass "VotedFrames" = some m.cls := F.2.2.2.1
  have hts := F.2.2.2.2
  have hn4 : 4 ≤ qa_n y := E.2.1.2.2.1
  have hn7 : qa_n y ≤ 7 := E.2.1.2.2.2.1
  have hl : lv_has ls 3 [(0, .ref (qa_a y 0 0)), (1, .int z), (2, .int z2)] := hl
  by_cases g1 : qm_isn (qa_n y) z = true
  · obtain ⟨i, hi, rfl⟩ := qm_wi_n (by omega) (by omega) g1
    by_cases g2 : qm_wi z2 0 3 = true
    · obtain ⟨t, ht, rfl⟩ := qm_wi_4 g2
      have hl : lv_has ls 3 [(0, .ref (qa_a y 0 0)), (1, .int (nI i)), (2, .int (nI t))] := hl
      refine lv_aload_n hx hb d_VF_word_0 rfl (lv_at hl 0 rfl) ?_
      refine lv_iload_n hx hb d_VF_word_1 rfl (lv_at hl 1 rfl) ?_
      refine qa_pV (k := 0) (i := 0) (As := [.int (nI i)]) E hC (c_VF_isNode l y v (nI i)) Nat.one_pos rfl rfl k_VF_72 (qa_fitR (by decide) (by decide)) rfl hl.1 rfl (Nat.le_of_ble_eq_true rfl) d_VF_word_2 ?_
      refine lv_if_eq hx hb d_VF_word_5 rfl (fun h9 => absurd h9 (qb_nz g1)) (fun _ => ?_)
      refine lv_iload_n hx hb d_VF_word_8 rfl (lv_at hl 2 rfl) ?_
      refine qa_pT (As := [.int (nI t)]) F (c_VF_isTask l (nI t)) k_VF_103 (qa_fitR (by decide) (by decide)) rfl hl.1 rfl (Nat.le_of_ble_eq_true rfl) d_VF_word_9 ?_
      refine lv_if_eq hx hb d_VF_word_12 rfl (fun h9 => absurd h9 (qb_nz g2)) (fun _ => ?_)
      refine lv_aload_n hx hb d_VF_word_15 rfl (lv_at hl 0 rfl) ?_
      refine qa_get (k := 0) (i := 0) (f := 3) (val := .ref (qa_a y 1 0)) E hC Nat.one_pos rfl rfl (by decide) f_VF_31 rfl rfl d_VF_word_16 ?_
      refine lv_iload_n hx hb d_VF_word_19 rfl (lv_at hl 1 rfl) ?_
      refine qa_ald (k := 1) (i := 0) (j := i) E hC Nat.one_pos rfl rfl rfl rfl rfl hi d_VF_word_20 ?_
      refine qa_get (k := 2) (i := i) (f := 5) (val := .ref (qa_a y 7 i)) E hC hi rfl rfl (by decide) f_VF_139 rfl rfl d_VF_word_21 ?_
      refine lv_iload_n hx hb d_VF_word_24 rfl (lv_at hl 2 rfl) ?_
      refine qa_ild (k := 7) (i := i) (j := t) E hC hi rfl rfl rfl ht d_VF_word_25 ?_
      refine lv_goto hx hb d_VF_word_26 rfl ?_
      exact qa_iret hx hb hr hlocks (by rw [if_pos ⟨g1, g2⟩, qm_ix_n (by omega), qm_ix_n (by omega)]) d_VF_word_30
    · have hl : lv_has ls 3 [(0, .ref (qa_a y 0 0)), (1, .int (nI i)), (2, .int z2)] := hl
      refine lv_aload_n hx hb d_VF_word_0 rfl (lv_at hl 0 rfl) ?_
      refine lv_iload_n hx hb d_VF_word_1 rfl (lv_at hl 1 rfl) ?_
      refine qa_pV (k := 0) (i := 0) (As := [.int (nI i)]) E hC (c_VF_isNode l y v (nI i)) Nat.one_pos rfl rfl k_VF_72 (qa_fitR (by decide) (by decide)) rfl hl.1 rfl (Nat.le_of_ble_eq_true rfl) d_VF_word_2 ?_
      refine lv_if_eq hx hb d_VF_word_5 rfl (fun h9 => absurd h9 (qb_nz g1)) (fun _ => ?_)
      refine lv_iload_n hx hb d_VF_word_8 rfl (lv_at hl 2 rfl) ?_
      refine qa_pT (As := [.int z2]) F (c_VF_isTask l z2) k_VF_103 (qa_fitR (by decide) (by decide)) rfl hl.1 rfl (Nat.le_of_ble_eq_true rfl) d_VF_word_9 ?_
      refine lv_if_eq hx hb d_VF_word_12 rfl (fun _ => ?_) (fun h9 => absurd (qb_zf (Bool.eq_false_iff.mpr g2)) h9)
      refine lv_iconst (v := 0) hx hb d_VF_word_29 (by decide) ?_
      exact qa_iret hx hb hr hlocks (by rw [if_neg (fun q => g2 q.2)]) d_VF_word_30
  · refine lv_aload_n hx hb d_VF_word_0 rfl (lv_at hl 0 rfl) ?_
    refine lv_iload_n hx hb d_VF_word_1 rfl (lv_at hl 1 rfl) ?_
    refine qa_pV (k := 0) (i := 0) (As := [.int z]) E hC (c_VF_isNode l y v z) Nat.one_pos rfl rfl k_VF_72 (qa_fitR (by decide) (by decide)) rfl hl.1 rfl (Nat.le_of_ble_eq_true rfl) d_VF_word_2 ?_
    refine lv_if_eq hx hb d_VF_word_5 rfl (fun _ => ?_) (fun h9 => absurd (qb_zf (Bool.eq_false_iff.mpr g1)) h9)
    refine lv_iconst (v := 0) hx hb d_VF_word_29 (by decide) ?_
    exact qa_iret hx hb hr hlocks (by rw [if_neg (fun q => g1 q.1)]) d_VF_word_30

set_option maxHeartbeats 4000000 in
set_option maxRecDepth 100000 in
theorem c_VF_solo (l : Launch) (y : qa_L) (v : qa_M) (z : Int32) : qa_Pu l y_VF_solo b_VF_solo 2 (some .int) 2 [.ref (qa_a y 0 0), .int z] (qa_W y v) (if qm_wi z 0 3 = true then v 18 0 (qm_ix z) else 0) := by
  refine qa_ofPu (plainFor_of_name (by decide)) (Nat.le_of_ble_eq_true rfl) ?_
  intro p e s m below meth c ls F hr hlocks hW hl
  have E : qa_E p m c b_VF_solo 2 s _ "VotedFrames" y := ⟨F, hW.2⟩
  have hC : qa_C y v s s.heap [] := ⟨hW.1, va_S.rf⟩
  have hx := F.1
  have hb := F.2.1
  have hown : s.vm.findClass "VotedFrames" = some m.cls := F.2.2.2.1
  have hts := F.2.2.2.2
  have hn4 : 4 ≤ qa_n y := E.2.1.2.2.1
  have hn7 : qa_n y ≤ 7 := E.2.1.2.2.2.1
  have hl : lv_has ls 2 [(0, .ref (qa_a y 0 0)), (1, .int z)] := hl
  by_cases g1 : qm_wi z 0 3 = true
  · obtain ⟨t, ht, rfl⟩ := qm_wi_4 g1
    have hl : lv_has ls 2 [(0, .ref (qa_a y 0 0)), (1, .int (nI t))] := hl
    refine lv_iload_n hx hb d_VF_solo_0 rfl (lv_at hl 1 rfl) ?_
    refine qa_pT (As := [.int (nI t)]) F (c_VF_isTask l (nI t)) k_VF_103 (qa_fitR (by decide) (by decide)) rfl hl.1 rfl (Nat.le_of_ble_eq_true rfl) d_VF_solo_1 ?_
    refine lv_if_eq hx hb d_VF_solo_4 rfl (fun h9 => absurd h9 (qb_nz g1)) (fun _ => ?_)
    refine lv_aload_n hx hb d_VF_solo_7 rfl (lv_at hl 0 rfl) ?_
    refine qa_get (k := 0) (i := 0) (f := 7) (val := .ref (qa_a y 18 0)) E hC Nat.one_pos rfl rfl (by decide) f_VF_59 rfl rfl d_VF_solo_8 ?_
    refine lv_iload_n hx hb d_VF_solo_11 rfl (lv_at hl 1 rfl) ?_
    refine qa_ild (k := 18) (i := 0) (j := t) E hC Nat.one_pos rfl rfl rfl ht d_VF_solo_12 ?_
    refine lv_goto hx hb d_VF_solo_13 rfl ?_
    exact qa_iret hx hb hr hlocks (by rw [if_pos g1, qm_ix_n (by omega)]) d_VF_solo_17
  · refine lv_iload_n hx hb d_VF_solo_0 rfl (lv_at hl 1 rfl) ?_
    refine qa_pT (As := [.int z]) F (c_VF_isTask l z) k_VF_103 (qa_fitR (by decide) (by decide)) rfl hl.1 rfl (Nat.le_of_ble_eq_true rfl) d_VF_solo_1 ?_
    refine lv_if_eq hx hb d_VF_solo_4 rfl (fun _ => ?_) (fun h9 => absurd (qb_zf (Bool.eq_false_iff.mpr g1)) h9)
    refine lv_iconst (v := 0) hx hb d_VF_solo_16 (by decide) ?_
    exact qa_iret hx hb hr hlocks (by rw [if_neg g1]) d_VF_solo_17
end
section
/-- the first node below n whose kind is 0, as the class tells it -/
def qm_lcr (n : Nat) (v : qa_M) : Int32 := match (List.range n).find? (fun i => decide (v 2 i 9 = 0)) with
  | some i => nI i
  | none => -1
theorem qm_find {n k : Nat} {p : Nat → Bool} (hk : k < n) (hb : ∀ a, a < k → p a = false) (h : p k = true) : (List.range n).find? p = some k := by
  rw [List.find?_eq_some_iff_append]
  refine ⟨h, List.range k, (List.range (n - k - 1)).map (fun i => k + 1 + i), ?_, ?_⟩
  · have e : n = k + (1 + (n - k - 1)) := by omega
    conv => lhs; rw [e]
    rw [List.range_add, List.range_add]
    simp [List.range_succ, Nat.add_assoc]
  · intro a ha
    simp [hb a (List.mem_range.mp ha)]
theorem qm_find_no {n : Nat} {p : Nat → Bool} (hb : ∀ a, a < n → p a = false) : (List.range n).find? p = none := by
  rw [List.find?_eq_none]
  intro a ha
  simp [hb a (List.mem_range.mp ha)]
theorem qm_lcr_at {n k : Nat} {v : qa_M} (hk : k < n) (hb : ∀ a, a < k → ¬ v 2 a 9 = 0) (h : v 2 k 9 = 0) : qm_lcr n v = nI k := by
  unfold qm_lcr
  rw [qm_find hk (fun a ha => decide_eq_false (hb a ha)) (decide_eq_true h)]
theorem qm_lcr_no {n : Nat} {v : qa_M} (hb : ∀ a, a < n → ¬ v 2 a 9 = 0) : qm_lcr n v = -1 := by
  unfold qm_lcr
  rw [qm_find_no (fun a ha => decide_eq_false (hb a ha))]
theorem qm_first {p : Nat → Prop} (n : Nat) : (∀ a, a < n → ¬ p a) ∨ ∃ f, f < n ∧ p f ∧ ∀ a, a < f → ¬ p a := by
  induction n with
  | zero => exact Or.inl (fun a h => absurd h (by omega))
  | succ n ih =>
    rcases ih with h | ⟨f, h1, h2, h3⟩
    · by_cases q : p n
      · exact Or.inr ⟨n, by omega, q, h⟩
      · refine Or.inl (fun a ha => ?_)
        by_cases e : a = n
        · rw [e]; exact q
        · exact h a (by omega)
    · exact Or.inr ⟨f, by omega, h2, h3⟩
theorem qm_lcr_or (n : Nat) (v : qa_M) : ((∀ a, a < n → ¬ v 2 a 9 = 0) ∧ qm_lcr n v = -1) ∨ ∃ f, f < n ∧ v 2 f 9 = 0 ∧ (∀ a, a < f → ¬ v 2 a 9 = 0) ∧ qm_lcr n v = nI f := by
  rcases qm_first (p := fun a => v 2 a 9 = 0) n with h | ⟨f, h1, h2, h3⟩
  · exact Or.inl ⟨h, qm_lcr_no h⟩
  · exact Or.inr ⟨f, h1, h2, h3, qm_lcr_at h1 h3 h2⟩
/-- least and greatest clock of the correct nodes from f on -/
def qm_spl (v : qa_M) (f : Nat) : Nat → Int32
  | 0 => v 2 f 6
  | d + 1 => if v 2 (f + 1 + d) 9 = 0 then qm_min (qm_spl v f d) (v 2 (f + 1 + d) 6) else qm_spl v f d
def qm_sph (v : qa_M) (f : Nat) : Nat → Int32
  | 0 => v 2 f 6
  | d + 1 => if v 2 (f + 1 + d) 9 = 0 then qm_max (qm_sph v f d) (v 2 (f + 1 + d) 6) else qm_sph v f d
def qm_spd (n : Nat) (v : qa_M) : Int32 := match (List.range n).find? (fun i => decide (v 2 i 9 = 0)) with
  | some f => qm_sph v f (n - f - 1) - qm_spl v f (n - f - 1)
  | none => 0
theorem qm_lcr_some {n f : Nat} {v : qa_M} (hf : f < n) (hn : n < 2 ^ 31) (e : qm_lcr n v = nI f) : (List.range n).find? (fun i => decide (v 2 i 9 = 0)) = some f := by
  rcases qm_first (p := fun a => v 2 a 9 = 0) n with h | ⟨g, h1, h2, h3⟩
  · rw [qm_lcr_no h] at e
    have h0 : ¬ nI f < 0 := nI_pos (by omega)
    rw [← e] at h0
    exact absurd (by decide) h0
  · rw [qm_lcr_at h1 h3 h2, nI_eq (by omega) (by omega)] at e
    subst e
    exact qm_find h1 (fun a ha => decide_eq_false (h3 a ha)) (decide_eq_true h2)
theorem qm_spd_no {n : Nat} {v : qa_M} (e : qm_lcr n v = -1) (hn : n < 2 ^ 31 := by omega) : qm_spd n v = 0 := by
  rcases qm_first (p := fun a => v 2 a 9 = 0) n with h | ⟨g, h1, h2, h3⟩
  · unfold qm_spd
    rw [qm_find_no (fun a ha => decide_eq_false (h a ha))]
  · rw [qm_lcr_at h1 h3 h2] at e
    have h0 : ¬ nI g < 0 := nI_pos (by omega)
    rw [e] at h0
    exact absurd (by decide) h0
theorem qm_spd_at {n f : Nat} {v : qa_M} (hf : f < n) (e : qm_lcr n v = nI f) (hn : n < 2 ^ 31 := by omega) : qm_spd n v = qm_sph v f (n - f - 1) - qm_spl v f (n - f - 1) := by
  unfold qm_spd
  rw [qm_lcr_some hf hn e]
/-- all correct nodes hold the same -/
def qm_alv (y : qa_L) (v : qa_M) : Bool := decide (∀ i, i < qa_n y → ∀ j, j < qa_n y → v 2 i 9 = 0 → v 2 j 9 = 0 → qm_alk y v i j = true)
theorem qm_alk_iff {y : qa_L} {v : qa_M} {i j : Nat} : qm_alk y v i j = true ↔ v 2 i 11 = v 2 j 11 ∧ (∀ k, k < 4 → v 7 i k = v 7 j k) ∧ ∀ k, k < qa_n y → v 5 i k = v 5 j k := by
  simp only [qm_alk, Bool.and_eq_true, decide_eq_true_eq, qm_same_iff, and_assoc]
theorem qm_alv_no {y : qa_L} {v : qa_M} (h : ∀ a, a < qa_n y → ¬ v 2 a 9 = 0) : qm_alv y v = true := decide_eq_true (fun i hi _ _ h0 => absurd h0 (h i hi))
theorem qm_alv_f {y : qa_L} {v : qa_M} {k f : Nat} (hk : k < qa_n y) (hf : f < qa_n y) (h : v 2 k 9 = 0) (h0 : v 2 f 9 = 0) (q : qm_alk y v k f = false) : qm_alv y v = false := decide_eq_false (fun a => by
  have := a k hk f hf h h0
  rw [q] at this
  cases this)
theorem qm_alv_t {y : qa_L} {v : qa_M} {f : Nat} (h0 : v 2 f 9 = 0) (hb : ∀ a, a < f → ¬ v 2 a 9 = 0) (h : ∀ a, f < a → a < qa_n y → v 2 a 9 = 0 → qm_alk y v a f = true) : qm_alv y v = true := by
  have key : ∀ a, a < qa_n y → v 2 a 9 = 0 → qm_alk y v a f = true := by
    intro a ha h1
    rcases Nat.lt_trichotomy a f with q | q | q
    · exact absurd h1 (hb a q)
    · subst q
      exact qm_alk_iff.mpr ⟨rfl, fun _ _ => rfl, fun _ _ => rfl⟩
    · exact h a q ha h1
  refine decide_eq_true (fun i hi j hj h1 h2 => ?_)
  obtain ⟨a1, a2, a3⟩ := qm_alk_iff.mp (key i hi h1)
  obtain ⟨b1, b2, b3⟩ := qm_alk_iff.mp (key j hj h2)
  exact qm_alk_iff.mpr ⟨a1.trans b1.symm, fun k hk => (a2 k hk).trans (b2 k hk).symm, fun k hk => (a3 k hk).trans (b3 k hk).symm⟩
end
section
set_option maxHeartbeats 4000000 in
set_option maxRecDepth 100000 in
theorem c_VF_leastCorrect (l : Launch) (y : qa_L) (v : qa_M) : qa_Pu l y_VF_leastCorrect b_VF_leastCorrect 2 (some .int) 0 [.ref (qa_a y 0 0)] (qa_W y v) (qm_lcr (qa_n y) v) := by
  refine qa_ofPu (plainFor_of_name (by decide)) (Nat.le_of_ble_eq_true rfl) ?_
  intro p e s m below meth c ls F hr hlocks hW hl
  have E : qa_E p m c b_VF_leastCorrect 2 s _ "VotedFrames" y := ⟨F, hW.2⟩
  have hC : qa_C y v s s.heap [] := ⟨hW.1, va_S.rf⟩
  have hx := F.1
  have hb := F.2.1
  have hown : s.vm.findClass "VotedFrames" = some m.cls := F.2.2.2.1
  have hts := F.2.2.2.2
  have hn4 : 4 ≤ qa_n y := E.2.1.2.2.1
  have hn7 : qa_n y ≤ 7 := E.2.1.2.2.2.1
  have hl : lv_has ls 2 [(0, .ref (qa_a y 0 0))] := hl
  have loop : ∀ (d k : Nat) (ls : Array Slot), k + d = qa_n y → (∀ a, a < k → ¬ v 2 a 9 = 0) → lv_has ls 2 [(1, .int (nI k)), (0, .ref (qa_a y 0 0))] → W p l e (qa_R 0) s m [.ref (qa_a y 0 0)].toArray below meth c s.heap [] 0 0 (MQ below (QcRead (qm_lcr (qa_n y) v)) [.ref (qa_a y 0 0)].toArray s 0 0 (fun _ => False)) (F0 m 2 ls []) := by
    intro d
    induction d with
    | zero =>
      intro k ls hkd hI hl
      obtain rfl : qa_n y = k := by omega
      refine lv_iload_n hx hb d_VF_leastCorrect_2 rfl (lv_at hl 0 rfl) ?_
      refine lv_aload_n hx hb d_VF_leastCorrect_3 rfl (lv_at hl 1 rfl) ?_
      refine qa_get (k := 0) (i := 0) (f := 0) (val := .int (nI (qa_n y))) E hC Nat.one_pos rfl rfl (by decide) f_VF_13 rfl rfl d_VF_leastCorrect_4 ?_
      refine lv_icmp_ge hx hb d_VF_leastCorrect_7 rfl (fun _ => ?_) (fun h9 => absurd (nI_le (Nat.le_refl _) (by omega)) h9)
      refine lv_iconst (v := -1) hx hb d_VF_leastCorrect_30 (by decide) ?_
      exact qa_iret hx hb hr hlocks ((qm_lcr_no hI).symm) d_VF_leastCorrect_31
    | succ d ih =>
      intro k ls hkd hI hl
      have hk : k < qa_n y := by omega
      refine lv_iload_n hx hb d_VF_leastCorrect_2 rfl (lv_at hl 0 rfl) ?_
      refine lv_aload_n hx hb d_VF_leastCorrect_3 rfl (lv_at hl 1 rfl) ?_
      refine qa_get (k := 0) (i := 0) (f := 0) (val := .int (nI (qa_n y))) E hC Nat.one_pos rfl rfl (by decide) f_VF_13 rfl rfl d_VF_leastCorrect_4 ?_
      refine lv_icmp_ge hx hb d_VF_leastCorrect_7 rfl (fun h9 => absurd h9 (nI_ge hk (by omega))) (fun _ => ?_)
      refine lv_aload_n hx hb d_VF_leastCorrect_10 rfl (lv_at hl 1 rfl) ?_
      refine qa_get (k := 0) (i := 0) (f := 3) (val := .ref (qa_a y 1 0)) E hC Nat.one_pos rfl rfl (by decide) f_VF_31 rfl rfl d_VF_leastCorrect_11 ?_
      refine lv_iload_n hx hb d_VF_leastCorrect_14 rfl (lv_at hl 0 rfl) ?_
      refine qa_ald (k := 1) (i := 0) (j := k) E hC Nat.one_pos rfl rfl rfl rfl rfl hk d_VF_leastCorrect_15 ?_
      refine qa_get (k := 2) (i := k) (f := 9) (val := .int (v 2 k 9)) E hC hk rfl rfl (by decide) f_VF_97 rfl rfl d_VF_leastCorrect_16 ?_
      refine lv_if_ne hx hb d_VF_leastCorrect_19 rfl (fun h19 => ?_) (fun h19 => ?_)
      · refine lv_iinc (v := nI (k + 1)) hx hb d_VF_leastCorrect_24 hl (k := 0) rfl (nI_1 k) (by decide) rfl (fun ls hl => ?_)
        have hl : lv_has ls 2 [(1, .int (nI (k + 1))), (0, .ref (qa_a y 0 0))] := hl
        refine lv_goto hx hb d_VF_leastCorrect_27 rfl ?_
        exact ih (k + 1) ls (by omega) (lt_s hI h19) (lv_sub hl [0, 1] rfl)
      · refine lv_iload_n hx hb d_VF_leastCorrect_22 rfl (lv_at hl 0 rfl) ?_
        exact qa_iret hx hb hr hlocks ((qm_lcr_at hk hI h19).symm) d_VF_leastCorrect_23
  refine lv_iconst (v := 0) hx hb d_VF_leastCorrect_0 (by decide) ?_
  refine lv_istore_n hx hb d_VF_leastCorrect_1 rfl hl (by decide) rfl (fun ls hl => ?_)
  have hl : lv_has ls 2 [(1, .int 0), (0, .ref (qa_a y 0 0))] := hl
  exact loop (qa_n y) 0 ls (by omega) lt_0 (lv_sub hl [0, 1] rfl)

set_option maxHeartbeats 4000000 in
set_option maxRecDepth 100000 in
theorem c_VF_spread (l : Launch) (y : qa_L) (v : qa_M) : qa_Pu l y_VF_spread b_VF_spread 5 (some .int) 1 [.ref (qa_a y 0 0)] (qa_W y v) (qm_spd (qa_n y) v) := by
  refine qa_ofPu (plainFor_of_name (by decide)) (Nat.le_of_ble_eq_true rfl) ?_
  intro p e s m below meth c ls F hr hlocks hW hl
  have E : qa_E p m c b_VF_spread 5 s _ "VotedFrames" y := ⟨F, hW.2⟩
  have hC : qa_C y v s s.heap [] := ⟨hW.1, va_S.rf⟩
  have hx := F.1
  have hb := F.2.1
  have hown : s.vm.findClass "VotedFrames" = some m.cls := F.2.2.2.1
  have hts := F.2.2.2.2
  have hn4 : 4 ≤ qa_n y := E.2.1.2.2.1
  have hn7 : qa_n y ≤ 7 := E.2.1.2.2.2.1
  have hl : lv_has ls 5 [(0, .ref (qa_a y 0 0))] := hl
  rcases qm_lcr_or (qa_n y) v with ⟨hno, e1⟩ | ⟨f, hf, hf0, hbef, e1⟩
  · have e2 : qm_lcr (qa_n y) v < 0 := by rw [e1]; decide
    refine lv_aload_n hx hb d_VF_spread_0 rfl (lv_at hl 0 rfl) ?_
    refine qa_pV (k := 0) (i := 0) (As := []) E hC (c_VF_leastCorrect l y v) Nat.one_pos rfl rfl k_VF_152 (qa_fitR (by decide) (by decide)) rfl hl.1 rfl (Nat.le_of_ble_eq_true rfl) d_VF_spread_1 ?_
    refine lv_istore_n hx hb d_VF_spread_4 rfl hl (by decide) rfl (fun ls hl => ?_)
    have hl : lv_has ls 5 [(1, .int (qm_lcr (qa_n y) v)), (0, .ref (qa_a y 0 0))] := hl
    refine lv_iload_n hx hb d_VF_spread_5 rfl (lv_at hl 0 rfl) ?_
    refine lv_if_ge hx hb d_VF_spread_6 rfl (fun h9 => absurd h9 (qm_nle e2)) (fun _ => ?_)
    refine lv_iconst (v := 0) hx hb d_VF_spread_9 (by decide) ?_
    exact qa_iret hx hb hr hlocks ((qm_spd_no e1).symm) d_VF_spread_10
  · have e2 : 0 ≤ qm_lcr (qa_n y) v := by rw [e1]; exact nI_pos' (by omega)
    have loop : ∀ (d k : Nat) (ls : Array Slot), k + d = qa_n y → (f < k) → lv_has ls 5 [(4, .int (nI k)), (2, .int (qm_spl v f (k - f - 1))), (3, .int (qm_sph v f (k - f - 1))), (1, .int (nI f)), (0, .ref (qa_a y 0 0))] → W p l e (qa_R 1) s m [.ref (qa_a y 0 0)].toArray below meth c s.heap [] 0 0 (MQ below (QcRead (qm_spd (qa_n y) v)) [.ref (qa_a y 0 0)].toArray s 0 0 (fun _ => False)) (F0 m 28 ls []) := by
      intro d
      induction d with
      | zero =>
        intro k ls hkd hI hl
        obtain rfl : qa_n y = k := by omega
        refine lv_iload hx hb d_VF_spread_28 (lv_at hl 0 rfl) ?_
        refine lv_aload_n hx hb d_VF_spread_30 rfl (lv_at hl 4 rfl) ?_
        refine qa_get (k := 0) (i := 0) (f := 0) (val := .int (nI (qa_n y))) E hC Nat.one_pos rfl rfl (by decide) f_VF_13 rfl rfl d_VF_spread_31 ?_
        refine lv_icmp_ge hx hb d_VF_spread_34 rfl (fun _ => ?_) (fun h9 => absurd (nI_le (Nat.le_refl _) (by omega)) h9)
        refine lv_iload_n hx hb d_VF_spread_86 rfl (lv_at hl 2 rfl) ?_
        refine lv_iload_n hx hb d_VF_spread_87 rfl (lv_at hl 1 rfl) ?_
        refine lv_isub hx hb d_VF_spread_88 ?_
        exact qa_iret hx hb hr hlocks ((qm_spd_at hf e1).symm) d_VF_spread_89
      | succ d ih =>
        intro k ls hkd hI hl
        have hk : k < qa_n y := by omega
        refine lv_iload hx hb d_VF_spread_28 (lv_at hl 0 rfl) ?_
        refine lv_aload_n hx hb d_VF_spread_30 rfl (lv_at hl 4 rfl) ?_
        refine qa_get (k := 0) (i := 0) (f := 0) (val := .int (nI (qa_n y))) E hC Nat.one_pos rfl rfl (by decide) f_VF_13 rfl rfl d_VF_spread_31 ?_
        refine lv_icmp_ge hx hb d_VF_spread_34 rfl (fun h9 => absurd h9 (nI_ge hk (by omega))) (fun _ => ?_)
        refine lv_aload_n hx hb d_VF_spread_37 rfl (lv_at hl 4 rfl) ?_
        refine qa_get (k := 0) (i := 0) (f := 3) (val := .ref (qa_a y 1 0)) E hC Nat.one_pos rfl rfl (by decide) f_VF_31 rfl rfl d_VF_spread_38 ?_
        refine lv_iload hx hb d_VF_spread_41 (lv_at hl 0 rfl) ?_
        refine qa_ald (k := 1) (i := 0) (j := k) E hC Nat.one_pos rfl rfl rfl rfl rfl hk d_VF_spread_43 ?_
        refine qa_get (k := 2) (i := k) (f := 9) (val := .int (v 2 k 9)) E hC hk rfl rfl (by decide) f_VF_97 rfl rfl d_VF_spread_44 ?_
        refine lv_if_ne hx hb d_VF_spread_47 rfl (fun h47 => ?_) (fun h47 => ?_)
        · refine lv_iinc (v := nI (k + 1)) hx hb d_VF_spread_80 hl (k := 0) rfl (nI_1 k) (by decide) rfl (fun ls hl => ?_)
          have hl : lv_has ls 5 [(4, .int (nI (k + 1))), (2, .int (qm_spl v f (k - f - 1))), (3, .int (qm_sph v f (k - f - 1))), (1, .int (nI f)), (0, .ref (qa_a y 0 0))] := hl
          refine lv_goto hx hb d_VF_spread_83 rfl ?_
          have e9 : k + 1 - f - 1 = (k - f - 1) + 1 := by omega
          have e8 : f + 1 + (k - f - 1) = k := by omega
          have e5 : qm_spl v f (k + 1 - f - 1) = qm_spl v f (k - f - 1) := by rw [e9, qm_spl, e8, if_neg h47]
          have e6 : qm_sph v f (k + 1 - f - 1) = qm_sph v f (k - f - 1) := by rw [e9, qm_sph, e8, if_neg h47]
          refine ih (k + 1) ls (by omega) (by omega) ?_
          rw [e5, e6]
          exact lv_sub hl [0, 1, 2, 3, 4] rfl
        · refine lv_iload_n hx hb d_VF_spread_50 rfl (lv_at hl 1 rfl) ?_
          refine lv_aload_n hx hb d_VF_spread_51 rfl (lv_at hl 4 rfl) ?_
          refine qa_get (k := 0) (i := 0) (f := 3) (val := .ref (qa_a y 1 0)) E hC Nat.one_pos rfl rfl (by decide) f_VF_31 rfl rfl d_VF_spread_52 ?_
          refine lv_iload hx hb d_VF_spread_55 (lv_at hl 0 rfl) ?_
          refine qa_ald (k := 1) (i := 0) (j := k) E hC Nat.one_pos rfl rfl rfl rfl rfl hk d_VF_spread_57 ?_
          refine qa_get (k := 2) (i := k) (f := 6) (val := .int (v 2 k 6)) E hC hk rfl rfl (by decide) f_VF_80 rfl rfl d_VF_spread_58 ?_
          refine qa_pT (As := [.int (qm_spl v f (k - f - 1)), .int (v 2 k 6)]) F (c_JM_min l (qm_spl v f (k - f - 1)) (v 2 k 6)) k_VF_155 (qa_fitR (by decide) (by decide)) rfl hl.1 rfl (Nat.le_of_ble_eq_true rfl) d_VF_spread_61 ?_
          refine lv_istore_n hx hb d_VF_spread_64 rfl hl (by decide) rfl (fun ls hl => ?_)
          have hl : lv_has ls 5 [(2, .int (qm_min (qm_spl v f (k - f - 1)) (v 2 k 6))), (4, .int (nI k)), (3, .int (qm_sph v f (k - f - 1))), (1, .int (nI f)), (0, .ref (qa_a y 0 0))] := hl
          refine lv_iload_n hx hb d_VF_spread_65 rfl (lv_at hl 2 rfl) ?_
          refine lv_aload_n hx hb d_VF_spread_66 rfl (lv_at hl 4 rfl) ?_
          refine qa_get (k := 0) (i := 0) (f := 3) (val := .ref (qa_a y 1 0)) E hC Nat.one_pos rfl rfl (by decide) f_VF_31 rfl rfl d_VF_spread_67 ?_
          refine lv_iload hx hb d_VF_spread_70 (lv_at hl 1 rfl) ?_
          refine qa_ald (k := 1) (i := 0) (j := k) E hC Nat.one_pos rfl rfl rfl rfl rfl hk d_VF_spread_72 ?_
          refine qa_get (k := 2) (i := k) (f := 6) (val := .int (v 2 k 6)) E hC hk rfl rfl (by decide) f_VF_80 rfl rfl d_VF_spread_73 ?_
          refine qa_pT (As := [.int (qm_sph v f (k - f - 1)), .int (v 2 k 6)]) F (c_JM_max l (qm_sph v f (k - f - 1)) (v 2 k 6)) k_VF_161 (qa_fitR (by decide) (by decide)) rfl hl.1 rfl (Nat.le_of_ble_eq_true rfl) d_VF_spread_76 ?_
          refine lv_istore_n hx hb d_VF_spread_79 rfl hl (by decide) rfl (fun ls hl => ?_)
          have hl : lv_has ls 5 [(3, .int (qm_max (qm_sph v f (k - f - 1)) (v 2 k 6))), (2, .int (qm_min (qm_spl v f (k - f - 1)) (v 2 k 6))), (4, .int (nI k)), (1, .int (nI f)), (0, .ref (qa_a y 0 0))] := hl
          refine lv_iinc (v := nI (k + 1)) hx hb d_VF_spread_80 hl (k := 2) rfl (nI_1 k) (by decide) rfl (fun ls hl => ?_)
          have hl : lv_has ls 5 [(4, .int (nI (k + 1))), (3, .int (qm_max (qm_sph v f (k - f - 1)) (v 2 k 6))), (2, .int (qm_min (qm_spl v f (k - f - 1)) (v 2 k 6))), (1, .int (nI f)), (0, .ref (qa_a y 0 0))] := hl
          refine lv_goto hx hb d_VF_spread_83 rfl ?_
          have e9 : k + 1 - f - 1 = (k - f - 1) + 1 := by omega
          have e8 : f + 1 + (k - f - 1) = k := by omega
          have e5 : qm_spl v f (k + 1 - f - 1) = qm_min (qm_spl v f (k - f - 1)) (v 2 k 6) := by rw [e9, qm_spl, e8, if_pos h47]
          have e6 : qm_sph v f (k + 1 - f - 1) = qm_max (qm_sph v f (k - f - 1)) (v 2 k 6) := by rw [e9, qm_sph, e8, if_pos h47]
          refine ih (k + 1) ls (by omega) (by omega) ?_
          rw [e5, e6]
          exact lv_sub hl [0, 2, 1, 3, 4] rfl
    refine lv_aload_n hx hb d_VF_spread_0 rfl (lv_at hl 0 rfl) ?_
    refine qa_pV (k := 0) (i := 0) (As := []) E hC (c_VF_leastCorrect l y v) Nat.one_pos rfl rfl k_VF_152 (qa_fitR (by decide) (by decide)) rfl hl.1 rfl (Nat.le_of_ble_eq_true rfl) d_VF_spread_1 ?_
    refine lv_istore_n hx hb d_VF_spread_4 rfl hl (by decide) rfl (fun ls hl => ?_)
    have hl : lv_has ls 5 [(1, .int (qm_lcr (qa_n y) v)), (0, .ref (qa_a y 0 0))] := hl
    refine lv_iload_n hx hb d_VF_spread_5 rfl (lv_at hl 0 rfl) ?_
    refine lv_if_ge hx hb d_VF_spread_6 rfl (fun _ => ?_) (fun h9 => absurd e2 h9)
    have hl : lv_has ls 5 [(1, .int (nI f)), (0, .ref (qa_a y 0 0))] := by rw [e1] at hl; exact hl
    refine lv_aload_n hx hb d_VF_spread_11 rfl (lv_at hl 1 rfl) ?_
    refine qa_get (k := 0) (i := 0) (f := 3) (val := .ref (qa_a y 1 0)) E hC Nat.one_pos rfl rfl (by decide) f_VF_31 rfl rfl d_VF_spread_12 ?_
    refine lv_iload_n hx hb d_VF_spread_15 rfl (lv_at hl 0 rfl) ?_
    refine qa_ald (k := 1) (i := 0) (j := f) E hC Nat.one_pos rfl rfl rfl rfl rfl hf d_VF_spread_16 ?_
    refine qa_get (k := 2) (i := f) (f := 6) (val := .int (v 2 f 6)) E hC hf rfl rfl (by decide) f_VF_80 rfl rfl d_VF_spread_17 ?_
    refine lv_istore_n hx hb d_VF_spread_20 rfl hl (by decide) rfl (fun ls hl => ?_)
    have hl : lv_has ls 5 [(2, .int (v 2 f 6)), (1, .int (nI f)), (0, .ref (qa_a y 0 0))] := hl
    refine lv_iload_n hx hb d_VF_spread_21 rfl (lv_at hl 0 rfl) ?_
    refine lv_istore_n hx hb d_VF_spread_22 rfl hl (by decide) rfl (fun ls hl => ?_)
    have hl : lv_has ls 5 [(3, .int (v 2 f 6)), (2, .int (v 2 f 6)), (1, .int (nI f)), (0, .ref (qa_a y 0 0))] := hl
    refine lv_iload_n hx hb d_VF_spread_23 rfl (lv_at hl 2 rfl) ?_
    refine lv_iconst (v := 1) hx hb d_VF_spread_24 (by decide) ?_
    refine lv_iadd hx hb d_VF_spread_25 ?_
    refine lv_istore hx hb d_VF_spread_26 hl (by decide) rfl (fun ls hl => ?_)
    have hl : lv_has ls 5 [(4, .int ((nI f) + 1)), (3, .int (v 2 f 6)), (2, .int (v 2 f 6)), (1, .int (nI f)), (0, .ref (qa_a y 0 0))] := hl
    have e3 : nI f + 1 = nI (f + 1) := nI_1 f
    rw [e3] at hl
    refine loop (qa_n y - (f + 1)) (f + 1) ls (by omega) (by omega) ?_
    rw [show f + 1 - f - 1 = 0 by omega]
    exact lv_sub hl [0, 2, 1, 3, 4] rfl

set_option maxHeartbeats 4000000 in
set_option maxRecDepth 100000 in
theorem c_VF_alike (l : Launch) (y : qa_L) (v : qa_M) : qa_Pu l y_VF_alike b_VF_alike 3 (some .boolean) 2 [.ref (qa_a y 0 0)] (qa_W y v) (qb (qm_alv y v)) := by
  refine qa_ofPu (plainFor_of_name (by decide)) (Nat.le_of_ble_eq_true rfl) ?_
  intro p e s m below meth c ls F hr hlocks hW hl
  have E : qa_E p m c b_VF_alike 3 s _ "VotedFrames" y := ⟨F, hW.2⟩
  have hC : qa_C y v s s.heap [] := ⟨hW.1, va_S.rf⟩
  have hx := F.1
  have hb := F.2.1
  have hown : s.vm.findClass "VotedFrames" = some m.cls := F.2.2.2.1
  have hts := F.2.2.2.2
  have hn4 : 4 ≤ qa_n y := E.2.1.2.2.1
  have hn7 : qa_n y ≤ 7 := E.2.1.2.2.2.1
  have hl : lv_has ls 3 [(0, .ref (qa_a y 0 0))] := hl
  rcases qm_lcr_or (qa_n y) v with ⟨hno, e1⟩ | ⟨f, hf, hf0, hbef, e1⟩
  · have e2 : qm_lcr (qa_n y) v < 0 := by rw [e1]; decide
    refine lv_aload_n hx hb d_VF_alike_0 rfl (lv_at hl 0 rfl) ?_
    refine qa_pV (k := 0) (i := 0) (As := []) E hC (c_VF_leastCorrect l y v) Nat.one_pos rfl rfl k_VF_152 (qa_fitR (by decide) (by decide)) rfl hl.1 rfl (Nat.le_of_ble_eq_true rfl) d_VF_alike_1 ?_
    refine lv_istore_n hx hb d_VF_alike_4 rfl hl (by decide) rfl (fun ls hl => ?_)
    have hl : lv_has ls 3 [(1, .int (qm_lcr (qa_n y) v)), (0, .ref (qa_a y 0 0))] := hl
    refine lv_iload_n hx hb d_VF_alike_5 rfl (lv_at hl 0 rfl) ?_
    refine lv_if_ge hx hb d_VF_alike_6 rfl (fun h9 => absurd h9 (qm_nle e2)) (fun _ => ?_)
    refine lv_iconst (v := 1) hx hb d_VF_alike_9 (by decide) ?_
    exact qa_zret hx hb hr hlocks (qb_1 (qm_alv_no hno)) rfl d_VF_alike_10
  · have e2 : 0 ≤ qm_lcr (qa_n y) v := by rw [e1]; exact nI_pos' (by omega)
    have loop : ∀ (d k : Nat) (ls : Array Slot), k + d = qa_n y → (f < k ∧ ∀ a, f < a → a < k → v 2 a 9 = 0 → qm_alk y v a f = true) → lv_has ls 3 [(2, .int (nI k)), (1, .int (nI f)), (0, .ref (qa_a y 0 0))] → W p l e (qa_R 2) s m [.ref (qa_a y 0 0)].toArray below meth c s.heap [] 0 0 (MQ below (QcRead (qb (qm_alv y v))) [.ref (qa_a y 0 0)].toArray s 0 0 (fun _ => False)) (F0 m 15 ls []) := by
      intro d
      induction d with
      | zero =>
        intro k ls hkd hI hl
        obtain rfl : qa_n y = k := by omega
        refine lv_iload_n hx hb d_VF_alike_15 rfl (lv_at hl 0 rfl) ?_
        refine lv_aload_n hx hb d_VF_alike_16 rfl (lv_at hl 2 rfl) ?_
        refine qa_get (k := 0) (i := 0) (f := 0) (val := .int (nI (qa_n y))) E hC Nat.one_pos rfl rfl (by decide) f_VF_13 rfl rfl d_VF_alike_17 ?_
        refine lv_icmp_ge hx hb d_VF_alike_20 rfl (fun _ => ?_) (fun h9 => absurd (nI_le (Nat.le_refl _) (by omega)) h9)
        refine lv_iconst (v := 1) hx hb d_VF_alike_61 (by decide) ?_
        exact qa_zret hx hb hr hlocks (qb_1 (qm_alv_t hf0 hbef hI.2)) rfl d_VF_alike_62
      | succ d ih =>
        intro k ls hkd hI hl
        have hk : k < qa_n y := by omega
        refine lv_iload_n hx hb d_VF_alike_15 rfl (lv_at hl 0 rfl) ?_
        refine lv_aload_n hx hb d_VF_alike_16 rfl (lv_at hl 2 rfl) ?_
        refine qa_get (k := 0) (i := 0) (f := 0) (val := .int (nI (qa_n y))) E hC Nat.one_pos rfl rfl (by decide) f_VF_13 rfl rfl d_VF_alike_17 ?_
        refine lv_icmp_ge hx hb d_VF_alike_20 rfl (fun h9 => absurd h9 (nI_ge hk (by omega))) (fun _ => ?_)
        refine lv_aload_n hx hb d_VF_alike_23 rfl (lv_at hl 2 rfl) ?_
        refine qa_get (k := 0) (i := 0) (f := 3) (val := .ref (qa_a y 1 0)) E hC Nat.one_pos rfl rfl (by decide) f_VF_31 rfl rfl d_VF_alike_24 ?_
        refine lv_iload_n hx hb d_VF_alike_27 rfl (lv_at hl 0 rfl) ?_
        refine qa_ald (k := 1) (i := 0) (j := k) E hC Nat.one_pos rfl rfl rfl rfl rfl hk d_VF_alike_28 ?_
        refine qa_get (k := 2) (i := k) (f := 9) (val := .int (v 2 k 9)) E hC hk rfl rfl (by decide) f_VF_97 rfl rfl d_VF_alike_29 ?_
        refine lv_if_ne hx hb d_VF_alike_32 rfl (fun h32 => ?_) (fun h32 => ?_)
        · refine lv_iinc (v := nI (k + 1)) hx hb d_VF_alike_55 hl (k := 0) rfl (nI_1 k) (by decide) rfl (fun ls hl => ?_)
          have hl : lv_has ls 3 [(2, .int (nI (k + 1))), (1, .int (nI f)), (0, .ref (qa_a y 0 0))] := hl
          refine lv_goto hx hb d_VF_alike_58 rfl ?_
          exact ih (k + 1) ls (by omega) ⟨by omega, fun a h1 h2 => by
            by_cases q : a = k
            · rw [q]; exact fun h0 => absurd h0 h32
            · exact hI.2 a h1 (by omega)⟩ (lv_sub hl [0, 1, 2] rfl)
        · refine lv_aload_n hx hb d_VF_alike_35 rfl (lv_at hl 2 rfl) ?_
          refine qa_get (k := 0) (i := 0) (f := 3) (val := .ref (qa_a y 1 0)) E hC Nat.one_pos rfl rfl (by decide) f_VF_31 rfl rfl d_VF_alike_36 ?_
          refine lv_iload_n hx hb d_VF_alike_39 rfl (lv_at hl 0 rfl) ?_
          refine qa_ald (k := 1) (i := 0) (j := k) E hC Nat.one_pos rfl rfl rfl rfl rfl hk d_VF_alike_40 ?_
          refine lv_aload_n hx hb d_VF_alike_41 rfl (lv_at hl 2 rfl) ?_
          refine qa_get (k := 0) (i := 0) (f := 3) (val := .ref (qa_a y 1 0)) E hC Nat.one_pos rfl rfl (by decide) f_VF_31 rfl rfl d_VF_alike_42 ?_
          refine lv_iload_n hx hb d_VF_alike_45 rfl (lv_at hl 1 rfl) ?_
          refine qa_ald (k := 1) (i := 0) (j := f) E hC Nat.one_pos rfl rfl rfl rfl rfl hf d_VF_alike_46 ?_
          refine qa_pV (k := 2) (i := k) (As := [.ref (qa_a y 2 f)]) E hC (c_ND_holdsTheSameAs l y v k f hk hf) hk rfl rfl k_VF_164 (qa_fitR (by decide) (by decide)) rfl hl.1 rfl (Nat.le_of_ble_eq_true rfl) d_VF_alike_47 ?_
          refine lv_if_ne hx hb d_VF_alike_50 rfl (fun h50 => ?_) (fun h50 => ?_)
          · refine lv_iinc (v := nI (k + 1)) hx hb d_VF_alike_55 hl (k := 0) rfl (nI_1 k) (by decide) rfl (fun ls hl => ?_)
            have hl : lv_has ls 3 [(2, .int (nI (k + 1))), (1, .int (nI f)), (0, .ref (qa_a y 0 0))] := hl
            refine lv_goto hx hb d_VF_alike_58 rfl ?_
            exact ih (k + 1) ls (by omega) ⟨by omega, fun a h1 h2 => by
              by_cases q : a = k
              · rw [q]; exact fun _ => qb_n0 h50
              · exact hI.2 a h1 (by omega)⟩ (lv_sub hl [0, 1, 2] rfl)
          · refine lv_iconst (v := 0) hx hb d_VF_alike_53 (by decide) ?_
            exact qa_zret hx hb hr hlocks (qb_0 (qm_alv_f hk hf h32 hf0 (qb_e0 h50))) rfl d_VF_alike_54
    refine lv_aload_n hx hb d_VF_alike_0 rfl (lv_at hl 0 rfl) ?_
    refine qa_pV (k := 0) (i := 0) (As := []) E hC (c_VF_leastCorrect l y v) Nat.one_pos rfl rfl k_VF_152 (qa_fitR (by decide) (by decide)) rfl hl.1 rfl (Nat.le_of_ble_eq_true rfl) d_VF_alike_1 ?_
    refine lv_istore_n hx hb d_VF_alike_4 rfl hl (by decide) rfl (fun ls hl => ?_)
    have hl : lv_has ls 3 [(1, .int (qm_lcr (qa_n y) v)), (0, .ref (qa_a y 0 0))] := hl
    refine lv_iload_n hx hb d_VF_alike_5 rfl (lv_at hl 0 rfl) ?_
    refine lv_if_ge hx hb d_VF_alike_6 rfl (fun _ => ?_) (fun h9 => absurd e2 h9)
    have hl : lv_has ls 3 [(1, .int (nI f)), (0, .ref (qa_a y 0 0))] := by rw [e1] at hl; exact hl
    refine lv_iload_n hx hb d_VF_alike_11 rfl (lv_at hl 0 rfl) ?_
    refine lv_iconst (v := 1) hx hb d_VF_alike_12 (by decide) ?_
    refine lv_iadd hx hb d_VF_alike_13 ?_
    refine lv_istore_n hx hb d_VF_alike_14 rfl hl (by decide) rfl (fun ls hl => ?_)
    have hl : lv_has ls 3 [(2, .int ((nI f) + 1)), (1, .int (nI f)), (0, .ref (qa_a y 0 0))] := hl
    have e3 : nI f + 1 = nI (f + 1) := nI_1 f
    rw [e3] at hl
    exact loop (qa_n y - (f + 1)) (f + 1) ls (by omega) ⟨by omega, fun a h1 h2 => absurd h1 (by omega)⟩ (lv_sub hl [0, 1, 2] rfl)
end
section
/-- task t is due in frame f -/
def qm_due (v : qa_M) (t : Nat) (f : Int32) : Bool := decide (0 < v 13 t 3) && decide (f - f / v 13 t 3 * v 13 t 3 = v 13 t 4)
end
section
set_option maxHeartbeats 4000000 in
set_option maxRecDepth 100000 in
theorem c_VF_clock (l : Launch) (y : qa_L) (v : qa_M) (z a b : Int32) : qa_Mi l y_VF_clock b_VF_clock 4 (some .boolean) 2 [.ref (qa_a y 0 0), .int z, .int a, .int b] y v (fun r u => r = qb (qm_isn (qa_n y) z && (qm_wi a (-500) 500 && qm_wi b (-2) 2)) ∧ u = if (qm_isn (qa_n y) z && (qm_wi a (-500) 500 && qm_wi b (-2) 2)) = true then qa_up (qa_up v 2 (qm_ix z) 6 a) 2 (qm_ix z) 7 b else v) := by
  refine qa_ofMi (plainFor_of_name (by decide)) (Nat.le_of_ble_eq_true rfl) ?_
  intro p e s m below meth c ls E hr hlocks hC hl
  have E : qa_E p m c b_VF_clock 4 s _ "VotedFrames" y := E
  have F := E.1
  have hx := F.1
  have hb := F.2.1
  have hown : s.vm.findClass "VotedFrames" = some m.cls := F.2.2.2.1
  have hts := F.2.2.2.2
  have hn4 : 4 ≤ qa_n y := E.2.1.2.2.1
  have hn7 : qa_n y ≤ 7 := E.2.1.2.2.2.1
  have hl : lv_has ls 4 [(0, .ref (qa_a y 0 0)), (1, .int z), (2, .int a), (3, .int b)] := hl
  by_cases g1 : qm_isn (qa_n y) z = true
  · obtain ⟨i, hi, rfl⟩ := qm_wi_n (by omega) (by omega) g1
    have hl : lv_has ls 4 [(0, .ref (qa_a y 0 0)), (1, .int (nI i)), (2, .int a), (3, .int b)] := hl
    refine lv_aload_n hx hb d_VF_clock_0 rfl (lv_at hl 0 rfl) ?_
    refine lv_iload_n hx hb d_VF_clock_1 rfl (lv_at hl 1 rfl) ?_
    refine qa_pV (k := 0) (i := 0) (As := [.int (nI i)]) E hC (c_VF_isNode l y v (nI i)) Nat.one_pos rfl rfl k_VF_72 (qa_fitR (by decide) (by decide)) rfl hl.1 rfl (Nat.le_of_ble_eq_true rfl) d_VF_clock_2 ?_
    refine lv_if_eq hx hb d_VF_clock_5 rfl (fun h9 => absurd h9 (qb_nz g1)) (fun _ => ?_)
    refine lv_iload_n hx hb d_VF_clock_8 rfl (lv_at hl 2 rfl) ?_
    refine lv_sipush (v := 500) hx hb d_VF_clock_9 (by decide) ?_
    refine qa_pT (As := [.int a, .int 500]) F (c_VF_isAtMost l a 500) k_VF_76 (qa_fitR (by decide) (by decide)) rfl hl.1 rfl (Nat.le_of_ble_eq_true rfl) d_VF_clock_12 ?_
    refine lv_if_eq hx hb d_VF_clock_15 rfl (fun h15 => ?_) (fun h15 => ?_)
    · refine lv_iconst (v := 0) hx hb d_VF_clock_26 (by decide) ?_
      exact qa_mzret E hC hr hlocks ⟨qb_0 (by rw [qb_e0 h15]; simp), by rw [if_neg]; rw [qb_e0 h15]; simp⟩ rfl d_VF_clock_27
    · refine lv_iload_n hx hb d_VF_clock_18 rfl (lv_at hl 3 rfl) ?_
      refine lv_iconst (v := 2) hx hb d_VF_clock_19 (by decide) ?_
      refine qa_pT (As := [.int b, .int 2]) F (c_VF_isAtMost l b 2) k_VF_76 (qa_fitR (by decide) (by decide)) rfl hl.1 rfl (Nat.le_of_ble_eq_true rfl) d_VF_clock_20 ?_
      refine lv_if_ne hx hb d_VF_clock_23 rfl (fun h23 => ?_) (fun h23 => ?_)
      · refine lv_aload_n hx hb d_VF_clock_28 rfl (lv_at hl 0 rfl) ?_
        refine qa_get (k := 0) (i := 0) (f := 3) (val := .ref (qa_a y 1 0)) E hC Nat.one_pos rfl rfl (by decide) f_VF_31 rfl rfl d_VF_clock_29 ?_
        refine lv_iload_n hx hb d_VF_clock_32 rfl (lv_at hl 1 rfl) ?_
        refine qa_ald (k := 1) (i := 0) (j := i) E hC Nat.one_pos rfl rfl rfl rfl rfl hi d_VF_clock_33 ?_
        refine lv_iload_n hx hb d_VF_clock_34 rfl (lv_at hl 2 rfl) ?_
        refine qa_put (k := 2) (i := i) (f := 6) E hC hi rfl rfl (by decide) f_VF_80 rfl rfl rfl rfl d_VF_clock_35 (fun H locs hC => ?_)
        refine lv_aload_n hx hb d_VF_clock_38 rfl (lv_at hl 0 rfl) ?_
        refine qa_get (k := 0) (i := 0) (f := 3) (val := .ref (qa_a y 1 0)) E hC Nat.one_pos rfl rfl (by decide) f_VF_31 rfl rfl d_VF_clock_39 ?_
        refine lv_iload_n hx hb d_VF_clock_42 rfl (lv_at hl 1 rfl) ?_
        refine qa_ald (k := 1) (i := 0) (j := i) E hC Nat.one_pos rfl rfl rfl rfl rfl hi d_VF_clock_43 ?_
        refine lv_iload_n hx hb d_VF_clock_44 rfl (lv_at hl 3 rfl) ?_
        refine qa_put (k := 2) (i := i) (f := 7) E hC hi rfl rfl (by decide) f_VF_85 rfl rfl rfl rfl d_VF_clock_45 (fun H locs hC => ?_)
        refine lv_iconst (v := 1) hx hb d_VF_clock_48 (by decide) ?_
        exact qa_mzret E hC hr hlocks ⟨qb_1 (by rw [g1, qb_n0 h15, qb_n0 h23]; rfl), by rw [if_pos (by rw [g1, qb_n0 h15, qb_n0 h23]; rfl), qm_ix_n (by omega)]⟩ rfl d_VF_clock_49
      · have h23 := qb_e0 h23
        refine lv_iconst (v := 0) hx hb d_VF_clock_26 (by decide) ?_
        exact qa_mzret E hC hr hlocks ⟨qb_0 (by rw [h23]; simp), by rw [if_neg]; rw [h23]; simp⟩ rfl d_VF_clock_27
  · have g0 := Bool.eq_false_iff.mpr g1
    refine lv_aload_n hx hb d_VF_clock_0 rfl (lv_at hl 0 rfl) ?_
    refine lv_iload_n hx hb d_VF_clock_1 rfl (lv_at hl 1 rfl) ?_
    refine qa_pV (k := 0) (i := 0) (As := [.int z]) E hC (c_VF_isNode l y v z) Nat.one_pos rfl rfl k_VF_72 (qa_fitR (by decide) (by decide)) rfl hl.1 rfl (Nat.le_of_ble_eq_true rfl) d_VF_clock_2 ?_
    refine lv_if_eq hx hb d_VF_clock_5 rfl (fun _ => ?_) (fun h9 => absurd (qb_zf g0) h9)
    refine lv_iconst (v := 0) hx hb d_VF_clock_26 (by decide) ?_
    exact qa_mzret E hC hr hlocks ⟨qb_0 (by rw [g0]; rfl), by rw [g0]; rfl⟩ rfl d_VF_clock_27

set_option maxHeartbeats 4000000 in
set_option maxRecDepth 100000 in
theorem c_VF_sensor (l : Launch) (y : qa_L) (v : qa_M) (z a : Int32) : qa_Mi l y_VF_sensor b_VF_sensor 3 (some .boolean) 2 [.ref (qa_a y 0 0), .int z, .int a] y v (fun r u => r = qb (qm_isn (qa_n y) z) ∧ u = if qm_isn (qa_n y) z = true then qa_up v 2 (qm_ix z) 8 a else v) := by
  refine qa_ofMi (plainFor_of_name (by decide)) (Nat.le_of_ble_eq_true rfl) ?_
  intro p e s m below meth c ls E hr hlocks hC hl
  have E : qa_E p m c b_VF_sensor 3 s _ "VotedFrames" y := E
  have F := E.1
  have hx := F.1
  have hb := F.2.1
  have hown : s.vm.findClass "VotedFrames" = some m.cls := F.2.2.2.1
  have hts := F.2.2.2.2
  have hn4 : 4 ≤ qa_n y := E.2.1.2.2.1
  have hn7 : qa_n y ≤ 7 := E.2.1.2.2.2.1
  have hl : lv_has ls 3 [(0, .ref (qa_a y 0 0)), (1, .int z), (2, .int a)] := hl
  by_cases g1 : qm_isn (qa_n y) z = true
  · obtain ⟨i, hi, rfl⟩ := qm_wi_n (by omega) (by omega) g1
    have hl : lv_has ls 3 [(0, .ref (qa_a y 0 0)), (1, .int (nI i)), (2, .int a)] := hl
    refine lv_aload_n hx hb d_VF_sensor_0 rfl (lv_at hl 0 rfl) ?_
    refine lv_iload_n hx hb d_VF_sensor_1 rfl (lv_at hl 1 rfl) ?_
    refine qa_pV (k := 0) (i := 0) (As := [.int (nI i)]) E hC (c_VF_isNode l y v (nI i)) Nat.one_pos rfl rfl k_VF_72 (qa_fitR (by decide) (by decide)) rfl hl.1 rfl (Nat.le_of_ble_eq_true rfl) d_VF_sensor_2 ?_
    refine lv_if_ne hx hb d_VF_sensor_5 rfl (fun _ => ?_) (fun h9 => absurd h9 (qb_nz g1))
    refine lv_aload_n hx hb d_VF_sensor_10 rfl (lv_at hl 0 rfl) ?_
    refine qa_get (k := 0) (i := 0) (f := 3) (val := .ref (qa_a y 1 0)) E hC Nat.one_pos rfl rfl (by decide) f_VF_31 rfl rfl d_VF_sensor_11 ?_
    refine lv_iload_n hx hb d_VF_sensor_14 rfl (lv_at hl 1 rfl) ?_
    refine qa_ald (k := 1) (i := 0) (j := i) E hC Nat.one_pos rfl rfl rfl rfl rfl hi d_VF_sensor_15 ?_
    refine lv_iload_n hx hb d_VF_sensor_16 rfl (lv_at hl 2 rfl) ?_
    refine qa_put (k := 2) (i := i) (f := 8) E hC hi rfl rfl (by decide) f_VF_94 rfl rfl rfl rfl d_VF_sensor_17 (fun H locs hC => ?_)
    refine lv_iconst (v := 1) hx hb d_VF_sensor_20 (by decide) ?_
    exact qa_mzret E hC hr hlocks ⟨qb_1 g1, by rw [if_pos g1, qm_ix_n (by omega)]⟩ rfl d_VF_sensor_21
  · have g0 := Bool.eq_false_iff.mpr g1
    refine lv_aload_n hx hb d_VF_sensor_0 rfl (lv_at hl 0 rfl) ?_
    refine lv_iload_n hx hb d_VF_sensor_1 rfl (lv_at hl 1 rfl) ?_
    refine qa_pV (k := 0) (i := 0) (As := [.int z]) E hC (c_VF_isNode l y v z) Nat.one_pos rfl rfl k_VF_72 (qa_fitR (by decide) (by decide)) rfl hl.1 rfl (Nat.le_of_ble_eq_true rfl) d_VF_sensor_2 ?_
    refine lv_if_ne hx hb d_VF_sensor_5 rfl (fun h9 => absurd (qb_zf g0) h9) (fun _ => ?_)
    refine lv_iconst (v := 0) hx hb d_VF_sensor_8 (by decide) ?_
    exact qa_mzret E hC hr hlocks ⟨qb_0 g0, by rw [g0]; rfl⟩ rfl d_VF_sensor_9

set_option maxHeartbeats 4000000 in
set_option maxRecDepth 100000 in
theorem c_VF_fault (l : Launch) (y : qa_L) (v : qa_M) (z a b : Int32) : qa_Mi l y_VF_fault b_VF_fault 4 (some .boolean) 2 [.ref (qa_a y 0 0), .int z, .int a, .int b] y v (fun r u => r = qb (qm_isn (qa_n y) z && (qm_wi a 0 5 && qm_wi b (-5000) 5000)) ∧ u = if (qm_isn (qa_n y) z && (qm_wi a 0 5 && qm_wi b (-5000) 5000)) = true then qa_up (qa_up v 2 (qm_ix z) 9 a) 2 (qm_ix z) 10 b else v) := by
  refine qa_ofMi (plainFor_of_name (by decide)) (Nat.le_of_ble_eq_true rfl) ?_
  intro p e s m below meth c ls E hr hlocks hC hl
  have E : qa_E p m c b_VF_fault 4 s _ "VotedFrames" y := E
  have F := E.1
  have hx := F.1
  have hb := F.2.1
  have hown : s.vm.findClass "VotedFrames" = some m.cls := F.2.2.2.1
  have hts := F.2.2.2.2
  have hn4 : 4 ≤ qa_n y := E.2.1.2.2.1
  have hn7 : qa_n y ≤ 7 := E.2.1.2.2.2.1
  have hl : lv_has ls 4 [(0, .ref (qa_a y 0 0)), (1, .int z), (2, .int a), (3, .int b)] := hl
  by_cases g1 : qm_isn (qa_n y) z = true
  · obtain ⟨i, hi, rfl⟩ := qm_wi_n (by omega) (by omega) g1
    have hl : lv_has ls 4 [(0, .ref (qa_a y 0 0)), (1, .int (nI i)), (2, .int a), (3, .int b)] := hl
    refine lv_aload_n hx hb d_VF_fault_0 rfl (lv_at hl 0 rfl) ?_
    refine lv_iload_n hx hb d_VF_fault_1 rfl (lv_at hl 1 rfl) ?_
    refine qa_pV (k := 0) (i := 0) (As := [.int (nI i)]) E hC (c_VF_isNode l y v (nI i)) Nat.one_pos rfl rfl k_VF_72 (qa_fitR (by decide) (by decide)) rfl hl.1 rfl (Nat.le_of_ble_eq_true rfl) d_VF_fault_2 ?_
    refine lv_if_eq hx hb d_VF_fault_5 rfl (fun h9 => absurd h9 (qb_nz g1)) (fun _ => ?_)
    refine lv_iload_n hx hb d_VF_fault_8 rfl (lv_at hl 2 rfl) ?_
    refine lv_iconst (v := 0) hx hb d_VF_fault_9 (by decide) ?_
    refine lv_iconst (v := 5) hx hb d_VF_fault_10 (by decide) ?_
    refine qa_pT (As := [.int a, .int 0, .int 5]) F (c_VF_within l a 0 5) k_VF_17 (qa_fitR (by decide) (by decide)) rfl hl.1 rfl (Nat.le_of_ble_eq_true rfl) d_VF_fault_11 ?_
    refine lv_if_eq hx hb d_VF_fault_14 rfl (fun h14 => ?_) (fun h14 => ?_)
    · refine lv_iconst (v := 0) hx hb d_VF_fault_27 (by decide) ?_
      exact qa_mzret E hC hr hlocks ⟨qb_0 (by rw [qb_e0 h14]; simp), by rw [if_neg]; rw [qb_e0 h14]; simp⟩ rfl d_VF_fault_28
    · refine lv_iload_n hx hb d_VF_fault_17 rfl (lv_at hl 3 rfl) ?_
      refine lv_sipush (v := 5000) hx hb d_VF_fault_18 (by decide) ?_
      refine qa_pT (As := [.int b, .int 5000]) F (c_VF_isAtMost l b 5000) k_VF_76 (qa_fitR (by decide) (by decide)) rfl hl.1 rfl (Nat.le_of_ble_eq_true rfl) d_VF_fault_21 ?_
      refine lv_if_ne hx hb d_VF_fault_24 rfl (fun h24 => ?_) (fun h24 => ?_)
      · refine lv_aload_n hx hb d_VF_fault_29 rfl (lv_at hl 0 rfl) ?_
        refine qa_get (k := 0) (i := 0) (f := 3) (val := .ref (qa_a y 1 0)) E hC Nat.one_pos rfl rfl (by decide) f_VF_31 rfl rfl d_VF_fault_30 ?_
        refine lv_iload_n hx hb d_VF_fault_33 rfl (lv_at hl 1 rfl) ?_
        refine qa_ald (k := 1) (i := 0) (j := i) E hC Nat.one_pos rfl rfl rfl rfl rfl hi d_VF_fault_34 ?_
        refine lv_iload_n hx hb d_VF_fault_35 rfl (lv_at hl 2 rfl) ?_
        refine qa_put (k := 2) (i := i) (f := 9) E hC hi rfl rfl (by decide) f_VF_97 rfl rfl rfl rfl d_VF_fault_36 (fun H locs hC => ?_)
        refine lv_aload_n hx hb d_VF_fault_39 rfl (lv_at hl 0 rfl) ?_
        refine qa_get (k := 0) (i := 0) (f := 3) (val := .ref (qa_a y 1 0)) E hC Nat.one_pos rfl rfl (by decide) f_VF_31 rfl rfl d_VF_fault_40 ?_
        refine lv_iload_n hx hb d_VF_fault_43 rfl (lv_at hl 1 rfl) ?_
        refine qa_ald (k := 1) (i := 0) (j := i) E hC Nat.one_pos rfl rfl rfl rfl rfl hi d_VF_fault_44 ?_
        refine lv_iload_n hx hb d_VF_fault_45 rfl (lv_at hl 3 rfl) ?_
        refine qa_put (k := 2) (i := i) (f := 10) E hC hi rfl rfl (by decide) f_VF_100 rfl rfl rfl rfl d_VF_fault_46 (fun H locs hC => ?_)
        refine lv_iconst (v := 1) hx hb d_VF_fault_49 (by decide) ?_
        exact qa_mzret E hC hr hlocks ⟨qb_1 (by rw [g1, qb_n0 h14, qb_n0 h24]; rfl), by rw [if_pos (by rw [g1, qb_n0 h14, qb_n0 h24]; rfl), qm_ix_n (by omega)]⟩ rfl d_VF_fault_50
      · refine lv_iconst (v := 0) hx hb d_VF_fault_27 (by decide) ?_
        exact qa_mzret E hC hr hlocks ⟨qb_0 (by rw [qb_e0 h24]; simp), by rw [if_neg]; rw [qb_e0 h24]; simp⟩ rfl d_VF_fault_28
  · have g0 := Bool.eq_false_iff.mpr g1
    refine lv_aload_n hx hb d_VF_fault_0 rfl (lv_at hl 0 rfl) ?_
    refine lv_iload_n hx hb d_VF_fault_1 rfl (lv_at hl 1 rfl) ?_
    refine qa_pV (k := 0) (i := 0) (As := [.int z]) E hC (c_VF_isNode l y v z) Nat.one_pos rfl rfl k_VF_72 (qa_fitR (by decide) (by decide)) rfl hl.1 rfl (Nat.le_of_ble_eq_true rfl) d_VF_fault_2 ?_
    refine lv_if_eq hx hb d_VF_fault_5 rfl (fun _ => ?_) (fun h9 => absurd (qb_zf g0) h9)
    refine lv_iconst (v := 0) hx hb d_VF_fault_27 (by decide) ?_
    exact qa_mzret E hC hr hlocks ⟨qb_0 (by rw [g0]; rfl), by rw [g0]; rfl⟩ rfl d_VF_fault_28

set_option maxHeartbeats 4000000 in
set_option maxRecDepth 100000 in
theorem c_VF_link (l : Launch) (y : qa_L) (v : qa_M) (z z2 a b : Int32) : qa_Mi l y_VF_link b_VF_link 5 (some .boolean) 2 [.ref (qa_a y 0 0), .int z, .int z2, .int a, .int b] y v (fun r u => r = qb ((qm_isn (qa_n y) z && (qm_isn (qa_n y) z2 && !decide (z = z2))) && (qm_wi a 0 20 && qm_wi b (-3) 3)) ∧ u = if ((qm_isn (qa_n y) z && (qm_isn (qa_n y) z2 && !decide (z = z2))) && (qm_wi a 0 20 && qm_wi b (-3) 3)) = true then qa_up (qa_up v 3 (qm_ix z2) (qm_ix z) a) 4 (qm_ix z2) (qm_ix z) b else v) := by
  refine qa_ofMi (plainFor_of_name (by decide)) (Nat.le_of_ble_eq_true rfl) ?_
  intro p e s m below meth c ls E hr hlocks hC hl
  have E : qa_E p m c b_VF_link 5 s _ "VotedFrames" y := E
  have F := E.1
  have hx := F.1
  have hb := F.2.1
  have hown : s.vm.findClass "VotedFrames" = some m.cls := F.2.2.2.1
  have hts := F.2.2.2.2
  have hn4 : 4 ≤ qa_n y := E.2.1.2.2.1
  have hn7 : qa_n y ≤ 7 := E.2.1.2.2.2.1
  have hl : lv_has ls 5 [(0, .ref (qa_a y 0 0)), (1, .int z), (2, .int z2), (3, .int a), (4, .int b)] := hl
  by_cases g1 : qm_isn (qa_n y) z = true
  · obtain ⟨j, hj, rfl⟩ := qm_wi_n (by omega) (by omega) g1
    by_cases g2 : qm_isn (qa_n y) z2 = true
    · obtain ⟨i, hi, rfl⟩ := qm_wi_n (by omega) (by omega) g2
      have hl : lv_has ls 5 [(0, .ref (qa_a y 0 0)), (1, .int (nI j)), (2, .int (nI i)), (3, .int a), (4, .int b)] := hl
      refine lv_aload_n hx hb d_VF_link_0 rfl (lv_at hl 0 rfl) ?_
      refine lv_iload_n hx hb d_VF_link_1 rfl (lv_at hl 1 rfl) ?_
      refine qa_pV (k := 0) (i := 0) (As := [.int (nI j)]) E hC (c_VF_isNode l y v (nI j)) Nat.one_pos rfl rfl k_VF_72 (qa_fitR (by decide) (by decide)) rfl hl.1 rfl (Nat.le_of_ble_eq_true rfl) d_VF_link_2 ?_
      refine lv_if_eq hx hb d_VF_link_5 rfl (fun h9 => absurd h9 (qb_nz g1)) (fun _ => ?_)
      refine lv_aload_n hx hb d_VF_link_8 rfl (lv_at hl 0 rfl) ?_
      refine lv_iload_n hx hb d_VF_link_9 rfl (lv_at hl 2 rfl) ?_
      refine qa_pV (k := 0) (i := 0) (As := [.int (nI i)]) E hC (c_VF_isNode l y v (nI i)) Nat.one_pos rfl rfl k_VF_72 (qa_fitR (by decide) (by decide)) rfl hl.1 rfl (Nat.le_of_ble_eq_true rfl) d_VF_link_10 ?_
      refine lv_if_eq hx hb d_VF_link_13 rfl (fun h9 => absurd h9 (qb_nz g2)) (fun _ => ?_)
      refine lv_iload_n hx hb d_VF_link_16 rfl (lv_at hl 1 rfl) ?_
      refine lv_iload_n hx hb d_VF_link_17 rfl (lv_at hl 2 rfl) ?_
      refine lv_icmp_ne hx hb d_VF_link_18 rfl (fun h18 => ?_) (fun h18 => ?_)
      · refine lv_iload_n hx hb d_VF_link_23 rfl (lv_at hl 3 rfl) ?_
        refine lv_iconst (v := 0) hx hb d_VF_link_24 (by decide) ?_
        refine lv_bipush (v := 20) hx hb d_VF_link_25 (by decide) ?_
        refine qa_pT (As := [.int a, .int 0, .int 20]) F (c_VF_within l a 0 20) k_VF_17 (qa_fitR (by decide) (by decide)) rfl hl.1 rfl (Nat.le_of_ble_eq_true rfl) d_VF_link_27 ?_
        refine lv_if_eq hx hb d_VF_link_30 rfl (fun h30 => ?_) (fun h30 => ?_)
        · refine lv_iconst (v := 0) hx hb d_VF_link_42 (by decide) ?_
          exact qa_mzret E hC hr hlocks ⟨qb_0 (by rw [qb_e0 h30]; simp), by rw [if_neg]; rw [qb_e0 h30]; simp⟩ rfl d_VF_link_43
        · refine lv_iload hx hb d_VF_link_33 (lv_at hl 4 rfl) ?_
          refine lv_iconst (v := 3) hx hb d_VF_link_35 (by decide) ?_
          refine qa_pT (As := [.int b, .int 3]) F (c_VF_isAtMost l b 3) k_VF_76 (qa_fitR (by decide) (by decide)) rfl hl.1 rfl (Nat.le_of_ble_eq_true rfl) d_VF_link_36 ?_
          refine lv_if_ne hx hb d_VF_link_39 rfl (fun h39 => ?_) (fun h39 => ?_)
          · refine lv_aload_n hx hb d_VF_link_44 rfl (lv_at hl 0 rfl) ?_
            refine qa_get (k := 0) (i := 0) (f := 3) (val := .ref (qa_a y 1 0)) E hC Nat.one_pos rfl rfl (by decide) f_VF_31 rfl rfl d_VF_link_45 ?_
            refine lv_iload_n hx hb d_VF_link_48 rfl (lv_at hl 2 rfl) ?_
            refine qa_ald (k := 1) (i := 0) (j := i) E hC Nat.one_pos rfl rfl rfl rfl rfl hi d_VF_link_49 ?_
            refine qa_get (k := 2) (i := i) (f := 1) (val := .ref (qa_a y 3 i)) E hC hi rfl rfl (by decide) f_VF_88 rfl rfl d_VF_link_50 ?_
            refine lv_iload_n hx hb d_VF_link_53 rfl (lv_at hl 1 rfl) ?_
            refine lv_iload_n hx hb d_VF_link_54 rfl (lv_at hl 3 rfl) ?_
            refine qa_ist (k := 3) (i := i) (j := j) E hC hi rfl rfl rfl hj d_VF_link_55 (fun H locs hC => ?_)
            refine lv_aload_n hx hb d_VF_link_56 rfl (lv_at hl 0 rfl) ?_
            refine qa_get (k := 0) (i := 0) (f := 3) (val := .ref (qa_a y 1 0)) E hC Nat.one_pos rfl rfl (by decide) f_VF_31 rfl rfl d_VF_link_57 ?_
            refine lv_iload_n hx hb d_VF_link_60 rfl (lv_at hl 2 rfl) ?_
            refine qa_ald (k := 1) (i := 0) (j := i) E hC Nat.one_pos rfl rfl rfl rfl rfl hi d_VF_link_61 ?_
            refine qa_get (k := 2) (i := i) (f := 2) (val := .ref (qa_a y 4 i)) E hC hi rfl rfl (by decide) f_VF_91 rfl rfl d_VF_link_62 ?_
            refine lv_iload_n hx hb d_VF_link_65 rfl (lv_at hl 1 rfl) ?_
            refine lv_iload hx hb d_VF_link_66 (lv_at hl 4 rfl) ?_
            refine qa_ist (k := 4) (i := i) (j := j) E hC hi rfl rfl rfl hj d_VF_link_68 (fun H locs hC => ?_)
            refine lv_iconst (v := 1) hx hb d_VF_link_69 (by decide) ?_
            exact qa_mzret E hC hr hlocks ⟨qb_1 (by rw [g1, g2, qb_n0 h30, qb_n0 h39, decide_eq_false h18]; rfl), by rw [if_pos (by rw [g1, g2, qb_n0 h30, qb_n0 h39, decide_eq_false h18]; rfl), qm_ix_n (by omega), qm_ix_n (by omega)]⟩ rfl d_VF_link_70
          · refine lv_iconst (v := 0) hx hb d_VF_link_42 (by decide) ?_
            exact qa_mzret E hC hr hlocks ⟨qb_0 (by rw [qb_e0 h39]; simp), by rw [if_neg]; rw [qb_e0 h39]; simp⟩ rfl d_VF_link_43
      · refine lv_iconst (v := 0) hx hb d_VF_link_21 (by decide) ?_
        exact qa_mzret E hC hr hlocks ⟨qb_0 (by rw [h18]; simp), by rw [if_neg]; rw [h18]; simp⟩ rfl d_VF_link_22
    · have g0 := Bool.eq_false_iff.mpr g2
      have hl : lv_has ls 5 [(0, .ref (qa_a y 0 0)), (1, .int (nI j)), (2, .int z2), (3, .int a), (4, .int b)] := hl
      refine lv_aload_n hx hb d_VF_link_0 rfl (lv_at hl 0 rfl) ?_
      refine lv_iload_n hx hb d_VF_link_1 rfl (lv_at hl 1 rfl) ?_
      refine qa_pV (k := 0) (i := 0) (As := [.int (nI j)]) E hC (c_VF_isNode l y v (nI j)) Nat.one_pos rfl rfl k_VF_72 (qa_fitR (by decide) (by decide)) rfl hl.1 rfl (Nat.le_of_ble_eq_true rfl) d_VF_link_2 ?_
      refine lv_if_eq hx hb d_VF_link_5 rfl (fun h9 => absurd h9 (qb_nz g1)) (fun _ => ?_)
      refine lv_aload_n hx hb d_VF_link_8 rfl (lv_at hl 0 rfl) ?_
      refine lv_iload_n hx hb d_VF_link_9 rfl (lv_at hl 2 rfl) ?_
      refine qa_pV (k := 0) (i := 0) (As := [.int z2]) E hC (c_VF_isNode l y v z2) Nat.one_pos rfl rfl k_VF_72 (qa_fitR (by decide) (by decide)) rfl hl.1 rfl (Nat.le_of_ble_eq_true rfl) d_VF_link_10 ?_
      refine lv_if_eq hx hb d_VF_link_13 rfl (fun _ => ?_) (fun h9 => absurd (qb_zf g0) h9)
      refine lv_iconst (v := 0) hx hb d_VF_link_21 (by decide) ?_
      exact qa_mzret E hC hr hlocks ⟨qb_0 (by rw [g0]; simp), by rw [if_neg]; rw [g0]; simp⟩ rfl d_VF_link_22
  · have g0 := Bool.eq_false_iff.mpr g1
    refine lv_aload_n hx hb d_VF_link_0 rfl (lv_at hl 0 rfl) ?_
    refine lv_iload_n hx hb d_VF_link_1 rfl (lv_at hl 1 rfl) ?_
    refine qa_pV (k := 0) (i := 0) (As := [.int z]) E hC (c_VF_isNode l y v z) Nat.one_pos rfl rfl k_VF_72 (qa_fitR (by decide) (by decide)) rfl hl.1 rfl (Nat.le_of_ble_eq_true rfl) d_VF_link_2 ?_
    refine lv_if_eq hx hb d_VF_link_5 rfl (fun _ => ?_) (fun h9 => absurd (qb_zf g0) h9)
    refine lv_iconst (v := 0) hx hb d_VF_link_21 (by decide) ?_
    exact qa_mzret E hC hr hlocks ⟨qb_0 (by rw [g0]; rfl), by rw [g0]; rfl⟩ rfl d_VF_link_22

set_option maxHeartbeats 4000000 in
set_option maxRecDepth 100000 in
theorem c_VF_due (l : Launch) (y : qa_L) (v : qa_M) (z a b : Int32) : qa_Mi l y_VF_due b_VF_due 4 (some .boolean) 2 [.ref (qa_a y 0 0), .int z, .int a, .int b] y v (fun r u => r = qb (qm_wi z 0 3 && (qm_wi a 1 8 && qm_wi b 0 (a - 1))) ∧ u = if (qm_wi z 0 3 && (qm_wi a 1 8 && qm_wi b 0 (a - 1))) = true then qa_up (qa_up v 13 (qm_ix z) 3 a) 13 (qm_ix z) 4 b else v) := by
  refine qa_ofMi (plainFor_of_name (by decide)) (Nat.le_of_ble_eq_true rfl) ?_
  intro p e s m below meth c ls E hr hlocks hC hl
  have E : qa_E p m c b_VF_due 4 s _ "VotedFrames" y := E
  have F := E.1
  have hx := F.1
  have hb := F.2.1
  have hown : s.vm.findClass "VotedFrames" = some m.cls := F.2.2.2.1
  have hts := F.2.2.2.2
  have hn4 : 4 ≤ qa_n y := E.2.1.2.2.1
  have hn7 : qa_n y ≤ 7 := E.2.1.2.2.2.1
  have hl : lv_has ls 4 [(0, .ref (qa_a y 0 0)), (1, .int z), (2, .int a), (3, .int b)] := hl
  by_cases g1 : qm_wi z 0 3 = true
  · obtain ⟨t, ht, rfl⟩ := qm_wi_4 g1
    have hl : lv_has ls 4 [(0, .ref (qa_a y 0 0)), (1, .int (nI t)), (2, .int a), (3, .int b)] := hl
    refine lv_iload_n hx hb d_VF_due_0 rfl (lv_at hl 1 rfl) ?_
    refine qa_pT (As := [.int (nI t)]) F (c_VF_isTask l (nI t)) k_VF_103 (qa_fitR (by decide) (by decide)) rfl hl.1 rfl (Nat.le_of_ble_eq_true rfl) d_VF_due_1 ?_
    refine lv_if_eq hx hb d_VF_due_4 rfl (fun h9 => absurd h9 (qb_nz g1)) (fun _ => ?_)
    refine lv_iload_n hx hb d_VF_due_7 rfl (lv_at hl 2 rfl) ?_
    refine lv_iconst (v := 1) hx hb d_VF_due_8 (by decide) ?_
    refine lv_bipush (v := 8) hx hb d_VF_due_9 (by decide) ?_
    refine qa_pT (As := [.int a, .int 1, .int 8]) F (c_VF_within l a 1 8) k_VF_17 (qa_fitR (by decide) (by decide)) rfl hl.1 rfl (Nat.le_of_ble_eq_true rfl) d_VF_due_11 ?_
    refine lv_if_eq hx hb d_VF_due_14 rfl (fun h14 => ?_) (fun h14 => ?_)
    · refine lv_iconst (v := 0) hx hb d_VF_due_28 (by decide) ?_
      exact qa_mzret E hC hr hlocks ⟨qb_0 (by rw [qb_e0 h14]; simp), by rw [if_neg]; rw [qb_e0 h14]; simp⟩ rfl d_VF_due_29
    · refine lv_iload_n hx hb d_VF_due_17 rfl (lv_at hl 3 rfl) ?_
      refine lv_iconst (v := 0) hx hb d_VF_due_18 (by decide) ?_
      refine lv_iload_n hx hb d_VF_due_19 rfl (lv_at hl 2 rfl) ?_
      refine lv_iconst (v := 1) hx hb d_VF_due_20 (by decide) ?_
      refine lv_isub hx hb d_VF_due_21 ?_
      refine qa_pT (As := [.int b, .int 0, .int (a - 1)]) F (c_VF_within l b 0 (a - 1)) k_VF_17 (qa_fitR (by decide) (by decide)) rfl hl.1 rfl (Nat.le_of_ble_eq_true rfl) d_VF_due_22 ?_
      refine lv_if_ne hx hb d_VF_due_25 rfl (fun h25 => ?_) (fun h25 => ?_)
      · refine lv_aload_n hx hb d_VF_due_30 rfl (lv_at hl 0 rfl) ?_
        refine qa_get (k := 0) (i := 0) (f := 5) (val := .ref (qa_a y 12 0)) E hC Nat.one_pos rfl rfl (by decide) f_VF_48 rfl rfl d_VF_due_31 ?_
        refine lv_iload_n hx hb d_VF_due_34 rfl (lv_at hl 1 rfl) ?_
        refine qa_ald (k := 12) (i := 0) (j := t) E hC Nat.one_pos rfl rfl rfl rfl rfl ht d_VF_due_35 ?_
        refine lv_iload_n hx hb d_VF_due_36 rfl (lv_at hl 2 rfl) ?_
        refine qa_put (k := 13) (i := t) (f := 3) E hC ht rfl rfl (by decide) f_VF_118 rfl rfl rfl rfl d_VF_due_37 (fun H locs hC => ?_)
        refine lv_aload_n hx hb d_VF_due_40 rfl (lv_at hl 0 rfl) ?_
        refine qa_get (k := 0) (i := 0) (f := 5) (val := .ref (qa_a y 12 0)) E hC Nat.one_pos rfl rfl (by decide) f_VF_48 rfl rfl d_VF_due_41 ?_
        refine lv_iload_n hx hb d_VF_due_44 rfl (lv_at hl 1 rfl) ?_
        refine qa_ald (k := 12) (i := 0) (j := t) E hC Nat.one_pos rfl rfl rfl rfl rfl ht d_VF_due_45 ?_
        refine lv_iload_n hx hb d_VF_due_46 rfl (lv_at hl 3 rfl) ?_
        refine qa_put (k := 13) (i := t) (f := 4) E hC ht rfl rfl (by decide) f_VF_121 rfl rfl rfl rfl d_VF_due_47 (fun H locs hC => ?_)
        refine lv_iconst (v := 1) hx hb d_VF_due_50 (by decide) ?_
        exact qa_mzret E hC hr hlocks ⟨qb_1 (by rw [g1, qb_n0 h14, qb_n0 h25]; rfl), by rw [if_pos (by rw [g1, qb_n0 h14, qb_n0 h25]; rfl), qm_ix_n (by omega)]⟩ rfl d_VF_due_51
      · refine lv_iconst (v := 0) hx hb d_VF_due_28 (by decide) ?_
        exact qa_mzret E hC hr hlocks ⟨qb_0 (by rw [qb_e0 h25]; simp), by rw [if_neg]; rw [qb_e0 h25]; simp⟩ rfl d_VF_due_29
  · have g0 := Bool.eq_false_iff.mpr g1
    refine lv_iload_n hx hb d_VF_due_0 rfl (lv_at hl 1 rfl) ?_
    refine qa_pT (As := [.int z]) F (c_VF_isTask l z) k_VF_103 (qa_fitR (by decide) (by decide)) rfl hl.1 rfl (Nat.le_of_ble_eq_true rfl) d_VF_due_1 ?_
    refine lv_if_eq hx hb d_VF_due_4 rfl (fun _ => ?_) (fun h9 => absurd (qb_zf g0) h9)
    refine lv_iconst (v := 0) hx hb d_VF_due_28 (by decide) ?_
    exact qa_mzret E hC hr hlocks ⟨qb_0 (by rw [g0]; rfl), by rw [g0]; rfl⟩ rfl d_VF_due_29

set_option maxHeartbeats 4000000 in
set_option maxRecDepth 100000 in
theorem c_TK_append (l : Launch) (y : qa_L) (v : qa_M) (t L : Nat) (a b : Int32) (ht : t < 4) (hL : v 13 t 2 = nI L) (hL12 : L ≤ 12) : qa_Mi l y_TK_append b_TK_append 3 (some .boolean) 0 [.ref (qa_a y 13 t), .int a, .int b] y v (fun r u => r = qb (decide (L < 12)) ∧ u = if L < 12 then qa_up (qa_up (qa_up v 14 t L a) 15 t L b) 13 t 2 (nI (L + 1)) else v) := by
  refine qa_ofMi (plainFor_of_name (by decide)) (Nat.le_of_ble_eq_true rfl) ?_
  intro p e s m below meth c ls E hr hlocks hC hl
  have E : qa_E p m c b_TK_append 3 s _ "VotedFrames$Task" y := E
  have F := E.1
  have hx := F.1
  have hb := F.2.1
  have hown : s.vm.findClass "VotedFrames$Task" = some m.cls := F.2.2.2.1
  have hts := F.2.2.2.2
  have hn4 : 4 ≤ qa_n y := E.2.1.2.2.1
  have hn7 : qa_n y ≤ 7 := E.2.1.2.2.2.1
  have hl : lv_has ls 3 [(0, .ref (qa_a y 13 t)), (1, .int a), (2, .int b)] := hl
  by_cases hL : L < 12
  · refine lv_aload_n hx hb d_TK_append_0 rfl (lv_at hl 0 rfl) ?_
    refine qa_get (k := 13) (i := t) (f := 2) (val := .int (v 13 t 2)) E hC ht rfl rfl (by decide) f_TK_16 rfl rfl d_TK_append_1 ?_
    refine lv_bipush (v := 12) hx hb d_TK_append_4 (by decide) ?_
    refine lv_icmp_lt hx hb d_TK_append_6 rfl (fun _ => ?_) (fun h9 => absurd (show v 13 t 2 < 12 by rw [‹v 13 t 2 = nI L›]; exact nI_lt hL (by decide)) h9)
    refine lv_aload_n hx hb d_TK_append_11 rfl (lv_at hl 0 rfl) ?_
    refine qa_get (k := 13) (i := t) (f := 0) (val := .ref (qa_a y 14 t)) E hC ht rfl rfl (by decide) f_TK_9 rfl rfl d_TK_append_12 ?_
    refine lv_aload_n hx hb d_TK_append_15 rfl (lv_at hl 0 rfl) ?_
    refine qa_get (k := 13) (i := t) (f := 2) (val := .int (v 13 t 2)) E hC ht rfl rfl (by decide) f_TK_16 rfl rfl d_TK_append_16 ?_
    refine lv_iload_n hx hb d_TK_append_19 rfl (lv_at hl 1 rfl) ?_
    refine qa_ist (k := 14) (i := t) (j := L) E hC ht rfl rfl ‹v 13 t 2 = nI L› hL d_TK_append_20 (fun H locs hC => ?_)
    refine lv_aload_n hx hb d_TK_append_21 rfl (lv_at hl 0 rfl) ?_
    refine qa_get (k := 13) (i := t) (f := 1) (val := .ref (qa_a y 15 t)) E hC ht rfl rfl (by decide) f_TK_13 rfl rfl d_TK_append_22 ?_
    refine lv_aload_n hx hb d_TK_append_25 rfl (lv_at hl 0 rfl) ?_
    refine qa_get (k := 13) (i := t) (f := 2) (val := .int ((qa_up v 14 t L a) 13 t 2)) E hC ht rfl rfl (by decide) f_TK_16 rfl rfl d_TK_append_26 ?_
    refine lv_iload_n hx hb d_TK_append_29 rfl (lv_at hl 2 rfl) ?_
    refine qa_ist (k := 15) (i := t) (j := L) E hC ht rfl rfl (show qa_up v 14 t L a 13 t 2 = nI L by rw [qa_up_k (by decide)]; assumption) hL d_TK_append_30 (fun H locs hC => ?_)
    refine lv_aload_n hx hb d_TK_append_31 rfl (lv_at hl 0 rfl) ?_
    refine lv_dup hx hb d_TK_append_32 rfl ?_
    refine qa_get (k := 13) (i := t) (f := 2) (val := .int ((qa_up (qa_up v 14 t L a) 15 t L b) 13 t 2)) E hC ht rfl rfl (by decide) f_TK_16 rfl rfl d_TK_append_33 ?_
    refine lv_iconst (v := 1) hx hb d_TK_append_36 (by decide) ?_
    refine lv_iadd hx hb d_TK_append_37 ?_
    refine qa_put (k := 13) (i := t) (f := 2) E hC ht rfl rfl (by decide) f_TK_16 rfl rfl rfl rfl d_TK_append_38 (fun H locs hC => ?_)
    refine lv_iconst (v := 1) hx hb d_TK_append_41 (by decide) ?_
    exact qa_mzret E hC hr hlocks ⟨qb_1 (decide_eq_true hL), by rw [if_pos hL, qa_up_k (by decide), qa_up_k (by decide), ‹v 13 t 2 = nI L›, nI_1]⟩ rfl d_TK_append_42
  · refine lv_aload_n hx hb d_TK_append_0 rfl (lv_at hl 0 rfl) ?_
    refine qa_get (k := 13) (i := t) (f := 2) (val := .int (v 13 t 2)) E hC ht rfl rfl (by decide) f_TK_16 rfl rfl d_TK_append_1 ?_
    refine lv_bipush (v := 12) hx hb d_TK_append_4 (by decide) ?_
    refine lv_icmp_lt hx hb d_TK_append_6 rfl (fun h9 => absurd h9 (show ¬ v 13 t 2 < 12 by rw [‹v 13 t 2 = nI L›]; exact nI_nlt (b := 12) (by omega) (by omega))) (fun _ => ?_)
    refine lv_iconst (v := 0) hx hb d_TK_append_9 (by decide) ?_
    exact qa_mzret E hC hr hlocks ⟨qb_0 (decide_eq_false hL), by rw [if_neg hL]⟩ rfl d_TK_append_10

set_option maxHeartbeats 4000000 in
set_option maxRecDepth 100000 in
theorem c_TK_empty (l : Launch) (y : qa_L) (v : qa_M) (t : Nat) (ht : t < 4) : qa_Mi l y_TK_empty b_TK_empty 2 (some .int) 0 [.ref (qa_a y 13 t)] y v (fun r u => r = v 13 t 2 ∧ u = qa_up (qa_up v 13 t 2 0) 13 t 3 0) := by
  refine qa_ofMi (plainFor_of_name (by decide)) (Nat.le_of_ble_eq_true rfl) ?_
  intro p e s m below meth c ls E hr hlocks hC hl
  have E : qa_E p m c b_TK_empty 2 s _ "VotedFrames$Task" y := E
  have F := E.1
  have hx := F.1
  have hb := F.2.1
  have hown : s.vm.findClass "VotedFrames$Task" = some m.cls := F.2.2.2.1
  have hts := F.2.2.2.2
  have hn4 : 4 ≤ qa_n y := E.2.1.2.2.1
  have hn7 : qa_n y ≤ 7 := E.2.1.2.2.2.1
  have hl : lv_has ls 2 [(0, .ref (qa_a y 13 t))] := hl
  refine lv_aload_n hx hb d_TK_empty_0 rfl (lv_at hl 0 rfl) ?_
  refine qa_get (k := 13) (i := t) (f := 2) (val := .int (v 13 t 2)) E hC ht rfl rfl (by decide) f_TK_16 rfl rfl d_TK_empty_1 ?_
  refine lv_istore_n hx hb d_TK_empty_4 rfl hl (by decide) rfl (fun ls hl => ?_)
  have hl : lv_has ls 2 [(1, .int (v 13 t 2)), (0, .ref (qa_a y 13 t))] := hl
  refine lv_aload_n hx hb d_TK_empty_5 rfl (lv_at hl 1 rfl) ?_
  refine lv_iconst (v := 0) hx hb d_TK_empty_6 (by decide) ?_
  refine qa_put (k := 13) (i := t) (f := 2) E hC ht rfl rfl (by decide) f_TK_16 rfl rfl rfl rfl d_TK_empty_7 (fun H locs hC => ?_)
  refine lv_aload_n hx hb d_TK_empty_10 rfl (lv_at hl 1 rfl) ?_
  refine lv_iconst (v := 0) hx hb d_TK_empty_11 (by decide) ?_
  refine qa_put (k := 13) (i := t) (f := 3) E hC ht rfl rfl (by decide) f_TK_20 rfl rfl rfl rfl d_TK_empty_12 (fun H locs hC => ?_)
  refine lv_iload_n hx hb d_TK_empty_15 rfl (lv_at hl 0 rfl) ?_
  exact qa_mret E hC hr hlocks ⟨rfl, rfl⟩ d_TK_empty_16

set_option maxHeartbeats 4000000 in
set_option maxRecDepth 100000 in
theorem c_TK_isDueIn (l : Launch) (y : qa_L) (v : qa_M) (t : Nat) (f : Int32) (ht : t < 4) : qa_Pu l y_TK_isDueIn b_TK_isDueIn 2 (some .boolean) 0 [.ref (qa_a y 13 t), .int f] (qa_W y v) (qb (qm_due v t f)) := by
  refine qa_ofPu (plainFor_of_name (by decide)) (Nat.le_of_ble_eq_true rfl) ?_
  intro p e s m below meth c ls F hr hlocks hW hl
  have E : qa_E p m c b_TK_isDueIn 2 s _ "VotedFrames$Task" y := ⟨F, hW.2⟩
  have hC : qa_C y v s s.heap [] := ⟨hW.1, va_S.rf⟩
  have hx := F.1
  have hb := F.2.1
  have hown : s.vm.findClass "VotedFrames$Task" = some m.cls := F.2.2.2.1
  have hts := F.2.2.2.2
  have hn4 : 4 ≤ qa_n y := E.2.1.2.2.1
  have hn7 : qa_n y ≤ 7 := E.2.1.2.2.2.1
  have hl : lv_has ls 2 [(0, .ref (qa_a y 13 t)), (1, .int f)] := hl
  refine lv_aload_n hx hb d_TK_isDueIn_0 rfl (lv_at hl 0 rfl) ?_
  refine qa_get (k := 13) (i := t) (f := 3) (val := .int (v 13 t 3)) E hC ht rfl rfl (by decide) f_TK_20 rfl rfl d_TK_isDueIn_1 ?_
  refine lv_if_le hx hb d_TK_isDueIn_4 rfl (fun h4 => ?_) (fun h4 => ?_)
  · refine lv_iconst (v := 0) hx hb d_TK_isDueIn_24 (by decide) ?_
    exact qa_zret hx hb hr hlocks (qb_0 (by unfold qm_due; rw [decide_eq_false (fun q => qm_nle q h4)]; rfl)) rfl d_TK_isDueIn_25
  · refine lv_iload_n hx hb d_TK_isDueIn_7 rfl (lv_at hl 1 rfl) ?_
    refine lv_aload_n hx hb d_TK_isDueIn_8 rfl (lv_at hl 0 rfl) ?_
    refine qa_get (k := 13) (i := t) (f := 3) (val := .int (v 13 t 3)) E hC ht rfl rfl (by decide) f_TK_20 rfl rfl d_TK_isDueIn_9 ?_
    refine lv_irem hx hb d_TK_isDueIn_12 (fun q => h4 (by rw [q]; decide)) ?_
    refine lv_aload_n hx hb d_TK_isDueIn_13 rfl (lv_at hl 0 rfl) ?_
    refine qa_get (k := 13) (i := t) (f := 4) (val := .int (v 13 t 4)) E hC ht rfl rfl (by decide) f_TK_23 rfl rfl d_TK_isDueIn_14 ?_
    refine lv_icmp_ne hx hb d_TK_isDueIn_17 rfl (fun h17 => ?_) (fun h17 => ?_)
    · refine lv_iconst (v := 0) hx hb d_TK_isDueIn_24 (by decide) ?_
      exact qa_zret hx hb hr hlocks (qb_0 (by unfold qm_due; rw [decide_eq_false h17]; simp)) rfl d_TK_isDueIn_25
    · refine lv_iconst (v := 1) hx hb d_TK_isDueIn_20 (by decide) ?_
      refine lv_goto hx hb d_TK_isDueIn_21 rfl ?_
      exact qa_zret hx hb hr hlocks (qb_1 (by unfold qm_due; rw [decide_eq_true (qm_lt h4), decide_eq_true h17]; rfl)) rfl d_TK_isDueIn_25

set_option maxHeartbeats 4000000 in
set_option maxRecDepth 100000 in
theorem c_VF_code (l : Launch) (y : qa_L) (v : qa_M) (z a b : Int32) (len : Nat → Nat) (hlen : ∀ t, t < 4 → v 13 t 2 = nI (len t) ∧ len t ≤ 12) : qa_Mi l y_VF_code b_VF_code 4 (some .boolean) 3 [.ref (qa_a y 0 0), .int z, .int a, .int b] y v (fun r u => r = qb ((qm_wi z 0 3 && (qm_wi a 0 9 && qm_fits (qa_n y) a b)) && decide (len (qm_ix z) < 12)) ∧ u = if (qm_wi z 0 3 && (qm_wi a 0 9 && qm_fits (qa_n y) a b)) = true ∧ len (qm_ix z) < 12 then qa_up (qa_up (qa_up v 14 (qm_ix z) (len (qm_ix z)) a) 15 (qm_ix z) (len (qm_ix z)) b) 13 (qm_ix z) 2 (nI (len (qm_ix z) + 1)) else v) := by
  refine qa_ofMi (plainFor_of_name (by decide)) (Nat.le_of_ble_eq_true rfl) ?_
  intro p e s m below meth c ls E hr hlocks hC hl
  have E : qa_E p m c b_VF_code 4 s _ "VotedFrames" y := E
  have F := E.1
  have hx := F.1
  have hb := F.2.1
  have hown : s.vm.findClass "VotedFrames" = some m.cls := F.2.2.2.1
  have hts := F.2.2.2.2
  have hn4 : 4 ≤ qa_n y := E.2.1.2.2.1
  have hn7 : qa_n y ≤ 7 := E.2.1.2.2.2.1
  have hl : lv_has ls 4 [(0, .ref (qa_a y 0 0)), (1, .int z), (2, .int a), (3, .int b)] := hl
  by_cases g1 : qm_wi z 0 3 = true
  · obtain ⟨t, ht, rfl⟩ := qm_wi_4 g1
    obtain ⟨hL, hL12⟩ := hlen t ht
    rw [show qm_ix (nI t) = t from qm_ix_n (by omega)]
    have hl : lv_has ls 4 [(0, .ref (qa_a y 0 0)), (1, .int (nI t)), (2, .int a), (3, .int b)] := hl
    refine lv_iload_n hx hb d_VF_code_0 rfl (lv_at hl 1 rfl) ?_
    refine qa_pT (As := [.int (nI t)]) F (c_VF_isTask l (nI t)) k_VF_103 (qa_fitR (by decide) (by decide)) rfl hl.1 rfl (Nat.le_of_ble_eq_true rfl) d_VF_code_1 ?_
    refine lv_if_eq hx hb d_VF_code_4 rfl (fun h9 => absurd h9 (qb_nz g1)) (fun _ => ?_)
    refine lv_iload_n hx hb d_VF_code_7 rfl (lv_at hl 2 rfl) ?_
    refine lv_iconst (v := 0) hx hb d_VF_code_8 (by decide) ?_
    refine lv_bipush (v := 9) hx hb d_VF_code_9 (by decide) ?_
    refine qa_pT (As := [.int a, .int 0, .int 9]) F (c_VF_within l a 0 9) k_VF_17 (qa_fitR (by decide) (by decide)) rfl hl.1 rfl (Nat.le_of_ble_eq_true rfl) d_VF_code_11 ?_
    refine lv_if_eq hx hb d_VF_code_14 rfl (fun h14 => ?_) (fun h14 => ?_)
    · refine lv_iconst (v := 0) hx hb d_VF_code_26 (by decide) ?_
      exact qa_mzret E hC hr hlocks ⟨qb_0 (by rw [qb_e0 h14]; simp), by rw [if_neg]; rw [qb_e0 h14]; simp⟩ rfl d_VF_code_27
    · refine lv_aload_n hx hb d_VF_code_17 rfl (lv_at hl 0 rfl) ?_
      refine lv_iload_n hx hb d_VF_code_18 rfl (lv_at hl 2 rfl) ?_
      refine lv_iload_n hx hb d_VF_code_19 rfl (lv_at hl 3 rfl) ?_
      refine qa_pV (k := 0) (i := 0) (As := [.int a, .int b]) E hC (c_VF_fitsInstruction l y v a b) Nat.one_pos rfl rfl k_VF_106 (qa_fitR (by decide) (by decide)) rfl hl.1 rfl (Nat.le_of_ble_eq_true rfl) d_VF_code_20 ?_
      refine lv_if_ne hx hb d_VF_code_23 rfl (fun h23 => ?_) (fun h23 => ?_)
      · refine lv_aload_n hx hb d_VF_code_28 rfl (lv_at hl 0 rfl) ?_
        refine qa_get (k := 0) (i := 0) (f := 5) (val := .ref (qa_a y 12 0)) E hC Nat.one_pos rfl rfl (by decide) f_VF_48 rfl rfl d_VF_code_29 ?_
        refine lv_iload_n hx hb d_VF_code_32 rfl (lv_at hl 1 rfl) ?_
        refine qa_ald (k := 12) (i := 0) (j := t) E hC Nat.one_pos rfl rfl rfl rfl rfl ht d_VF_code_33 ?_
        refine lv_iload_n hx hb d_VF_code_34 rfl (lv_at hl 2 rfl) ?_
        refine lv_iload_n hx hb d_VF_code_35 rfl (lv_at hl 3 rfl) ?_
        refine qa_mV (k := 13) (i := t) (As := [.int a, .int b]) E hC (c_TK_append l y v t (len t) a b ht hL hL12) ht rfl rfl k_VF_109 (qa_fitR (by decide) (by decide)) rfl hl.1 rfl (Nat.le_of_ble_eq_true rfl) d_VF_code_36 (fun r1 u1 H locs hp1 hC => ?_)
        exact qa_mzret E hC hr hlocks ⟨by rw [hp1.1, g1, qb_n0 h14, qb_n0 h23]; rfl, by rw [hp1.2, g1, qb_n0 h14, qb_n0 h23]; simp⟩ (by rw [hp1.1]; exact qb_nar _) d_VF_code_39
      · refine lv_iconst (v := 0) hx hb d_VF_code_26 (by decide) ?_
        exact qa_mzret E hC hr hlocks ⟨qb_0 (by rw [qb_e0 h23]; simp), by rw [if_neg]; rw [qb_e0 h23]; simp⟩ rfl d_VF_code_27
  · have g0 := Bool.eq_false_iff.mpr g1
    refine lv_iload_n hx hb d_VF_code_0 rfl (lv_at hl 1 rfl) ?_
    refine qa_pT (As := [.int z]) F (c_VF_isTask l z) k_VF_103 (qa_fitR (by decide) (by decide)) rfl hl.1 rfl (Nat.le_of_ble_eq_true rfl) d_VF_code_1 ?_
    refine lv_if_eq hx hb d_VF_code_4 rfl (fun _ => ?_) (fun h9 => absurd (qb_zf g0) h9)
    refine lv_iconst (v := 0) hx hb d_VF_code_26 (by decide) ?_
    exact qa_mzret E hC hr hlocks ⟨qb_0 (by rw [g0]; rfl), by rw [if_neg]; rw [g0]; simp⟩ rfl d_VF_code_27

set_option maxHeartbeats 4000000 in
set_option maxRecDepth 100000 in
theorem c_VF_clear (l : Launch) (y : qa_L) (v : qa_M) (z : Int32) : qa_Mi l y_VF_clear b_VF_clear 2 (some .int) 2 [.ref (qa_a y 0 0), .int z] y v (fun r u => r = (if qm_wi z 0 3 = true then v 13 (qm_ix z) 2 else -1) ∧ u = if qm_wi z 0 3 = true then qa_up (qa_up v 13 (qm_ix z) 2 0) 13 (qm_ix z) 3 0 else v) := by
  refine qa_ofMi (plainFor_of_name (by decide)) (Nat.le_of_ble_eq_true rfl) ?_
  intro p e s m below meth c ls E hr hlocks hC hl
  have E : qa_E p m c b_VF_clear 2 s _ "VotedFrames" y := E
  have F := E.1
  have hx := F.1
  have hb := F.2.1
  have hown : s.vm.findClass "VotedFrames" = some m.cls := F.2.2.2.1
  have hts := F.2.2.2.2
  have hn4 : 4 ≤ qa_n y := E.2.1.2.2.1
  have hn7 : qa_n y ≤ 7 := E.2.1.2.2.2.1
  have hl : lv_has ls 2 [(0, .ref (qa_a y 0 0)), (1, .int z)] := hl
  by_cases g1 : qm_wi z 0 3 = true
  · obtain ⟨t, ht, rfl⟩ := qm_wi_4 g1
    have hl : lv_has ls 2 [(0, .ref (qa_a y 0 0)), (1, .int (nI t))] := hl
    refine lv_iload_n hx hb d_VF_clear_0 rfl (lv_at hl 1 rfl) ?_
    refine qa_pT (As := [.int (nI t)]) F (c_VF_isTask l (nI t)) k_VF_103 (qa_fitR (by decide) (by decide)) rfl hl.1 rfl (Nat.le_of_ble_eq_true rfl) d_VF_clear_1 ?_
    refine lv_if_eq hx hb d_VF_clear_4 rfl (fun h9 => absurd h9 (qb_nz g1)) (fun _ => ?_)
    refine lv_aload_n hx hb d_VF_clear_7 rfl (lv_at hl 0 rfl) ?_
    refine qa_get (k := 0) (i := 0) (f := 5) (val := .ref (qa_a y 12 0)) E hC Nat.one_pos rfl rfl (by decide) f_VF_48 rfl rfl d_VF_clear_8 ?_
    refine lv_iload_n hx hb d_VF_clear_11 rfl (lv_at hl 1 rfl) ?_
    refine qa_ald (k := 12) (i := 0) (j := t) E hC Nat.one_pos rfl rfl rfl rfl rfl ht d_VF_clear_12 ?_
    refine qa_mV (k := 13) (i := t) (As := []) E hC (c_TK_empty l y v t ht) ht rfl rfl k_VF_114 (qa_fitR (by decide) (by decide)) rfl hl.1 rfl (Nat.le_of_ble_eq_true rfl) d_VF_clear_13 (fun r1 u1 H locs hp1 hC => ?_)
    refine lv_goto hx hb d_VF_clear_16 rfl ?_
    exact qa_mret E hC hr hlocks ⟨by rw [hp1.1, if_pos g1, qm_ix_n (by omega)], by rw [hp1.2, if_pos g1, qm_ix_n (by omega)]⟩ d_VF_clear_20
  · refine lv_iload_n hx hb d_VF_clear_0 rfl (lv_at hl 1 rfl) ?_
    refine qa_pT (As := [.int z]) F (c_VF_isTask l z) k_VF_103 (qa_fitR (by decide) (by decide)) rfl hl.1 rfl (Nat.le_of_ble_eq_true rfl) d_VF_clear_1 ?_
    refine lv_if_eq hx hb d_VF_clear_4 rfl (fun _ => ?_) (fun h9 => absurd (qb_zf (Bool.eq_false_iff.mpr g1)) h9)
    refine lv_iconst (v := -1) hx hb d_VF_clear_19 (by decide) ?_
    exact qa_mret E hC hr hlocks ⟨by rw [if_neg g1], by rw [if_neg g1]⟩ d_VF_clear_20
end
section
/-! programs on a stack -/
def qm_nee (op : Int32) : Int32 := if op < 3 ∨ 7 < op then (if op = 8 ∨ op = 9 then 1 else 0) else 2
def qm_two (op a b : Int32) : Int32 := if op = 3 then a + b else if op = 4 then a - b else if op = 5 then a * b else if op = 6 then (if b = 0 then -1000000003 else qm_fd a b) else if a < b then 1 else 0
/-- what an instruction puts that takes nothing -/
def qm_fe (op x : Int32) (inp wds : Nat → Int32) (top : Int32) : Int32 := if op = 1 then inp (qm_ix x) else if op = 2 then wds (qm_ix x) else if op = 9 then top else x
/-- the result that ends a program before an instruction, 0 if none does: d ints on the stack, the top as said -/
def qm_rf (op : Int32) (d : Nat) (top : Int32) : Int32 := if nI d < qm_nee op then -1000000001 else if op = 6 ∧ top = 0 then -1000000003 else if (op ≤ 2 ∨ op = 9) ∧ 6 ≤ nI d then -1000000002 else 0
/-- a program's result: fuel (instructions left), place, how many to leave out, stack (top first) -/
def qm_ex (P X inp wds : Nat → Int32) : Nat → Nat → Nat → List Int32 → Int32
  | 0, _, _, stk => stk.headD (-1000000001)
  | f + 1, p, k + 1, stk => qm_ex P X inp wds f (p + 1) k stk
  | f + 1, p, 0, stk =>
    if ¬ qm_rf (P p) stk.length (stk.headD 0) = 0 then qm_rf (P p) stk.length (stk.headD 0)
    else if P p = 8 then qm_ex P X inp wds f (p + 1) (if stk.headD 0 = 0 then qm_ix (X p) else 0) stk.tail
    else if ¬ P p < 3 ∧ ¬ 7 < P p then qm_ex P X inp wds f (p + 1) 0 (qm_two (P p) (stk.tail.headD 0) (stk.headD 0) :: stk.tail.tail)
    else qm_ex P X inp wds f (p + 1) 0 (qm_fe (P p) (X p) inp wds (stk.headD 0) :: stk)
/-- the array a holds the stack: bottom at 0 -/
def qm_st (a : Nat → Int32) : List Int32 → Prop
  | [] => True
  | b :: r => a r.length = b ∧ qm_st a r
theorem qm_st_n {a a' : Nat → Int32} {r : List Int32} (h : qm_st a r) (hn : ∀ q, q < r.length → a' q = a q) : qm_st a' r := by
  induction r with
  | nil => trivial
  | cons b r ih =>
    refine ⟨?_, ih h.2 (fun q hq => hn q (by simp; omega))⟩
    rw [hn r.length (by simp)]
    exact h.1
/-- an instruction of a program: a number 0 .. 9, with what it wants of x -/
def qm_iok (n : Nat) (op x : Int32) : Prop := (∃ o, o ≤ 9 ∧ op = nI o) ∧ (op = 1 → ∃ j, j < n ∧ x = nI j) ∧ (op = 2 → ∃ j, j < 4 ∧ x = nI j) ∧ (op = 8 → ∃ j, j ≤ 11 ∧ x = nI j)
theorem qm_rf_d1 {op : Int32} {d : Nat} {top : Int32} (h : qm_rf op d top = 0) (hd : d ≤ 6) (h8 : op = 8 ∨ op = 9) : 1 ≤ d := by
  unfold qm_rf at h
  split at h
  · exact absurd h (by decide)
  · rename_i q
    have e : qm_nee op = 1 := by
      unfold qm_nee
      rcases h8 with rfl | rfl
      · decide
      · decide
    rw [e, show (1 : Int32) = nI 1 from rfl, nI_ltI (by omega) (by omega)] at q
    omega
theorem qm_rf_d2 {op : Int32} {d : Nat} {top : Int32} (h : qm_rf op d top = 0) (hd : d ≤ 6) (h1 : ¬ op < 3) (h2 : ¬ 7 < op) : 2 ≤ d := by
  unfold qm_rf at h
  split at h
  · exact absurd h (by decide)
  · rename_i q
    have e : qm_nee op = 2 := by
      unfold qm_nee
      rw [if_neg]
      exact fun z => z.elim h1 h2
    rw [e, show (2 : Int32) = nI 2 from rfl, nI_ltI (by omega) (by omega)] at q
    omega
theorem qm_rf_d6 {op : Int32} {d : Nat} {top : Int32} (h : qm_rf op d top = 0) (hd : d ≤ 6) (ho : op ≤ 2 ∨ op = 9) : d < 6 := by
  unfold qm_rf at h
  split at h
  · exact absurd h (by decide)
  · split at h
    · exact absurd h (by decide)
    · split at h
      · exact absurd h (by decide)
      · rename_i q
        rw [show (6 : Int32) = nI 6 from rfl, nI_leI (by omega) (by omega)] at q
        rcases Nat.lt_or_ge d 6 with z | z
        · exact z
        · exact absurd ⟨ho, z⟩ q
theorem qm_op29 {op : Int32} (h : ∃ o, o ≤ 9 ∧ op = nI o) (h8 : ¬ op = 8) (h3 : op < 3 ∨ 7 < op) : op ≤ 2 ∨ op = 9 := by
  obtain ⟨o, ho, rfl⟩ := h
  have : o = 0 ∨ o = 1 ∨ o = 2 ∨ o = 3 ∨ o = 4 ∨ o = 5 ∨ o = 6 ∨ o = 7 ∨ o = 8 ∨ o = 9 := by omega
  rcases this with rfl | rfl | rfl | rfl | rfl | rfl | rfl | rfl | rfl | rfl
  · exact Or.inl (by decide)
  · exact Or.inl (by decide)
  · exact Or.inl (by decide)
  · exact absurd h3 (by decide)
  · exact absurd h3 (by decide)
  · exact absurd h3 (by decide)
  · exact absurd h3 (by decide)
  · exact absurd h3 (by decide)
  · exact absurd rfl h8
  · exact Or.inr rfl
theorem qm_ex_s {P X inp wds : Nat → Int32} {L p k : Nat} {stk : List Int32} (h : p < L) : qm_ex P X inp wds (L - p) p (k + 1) stk = qm_ex P X inp wds (L - (p + 1)) (p + 1) k stk := by
  rw [show L - p = (L - (p + 1)) + 1 by omega, qm_ex]
theorem qm_ex_0 {P X inp wds : Nat → Int32} {L p : Nat} {stk : List Int32} (h : p < L) : qm_ex P X inp wds (L - p) p 0 stk =
    if ¬ qm_rf (P p) stk.length (stk.headD 0) = 0 then qm_rf (P p) stk.length (stk.headD 0)
    else if P p = 8 then qm_ex P X inp wds (L - (p + 1)) (p + 1) (if stk.headD 0 = 0 then qm_ix (X p) else 0) stk.tail
    else if ¬ P p < 3 ∧ ¬ 7 < P p then qm_ex P X inp wds (L - (p + 1)) (p + 1) 0 (qm_two (P p) (stk.tail.headD 0) (stk.headD 0) :: stk.tail.tail)
    else qm_ex P X inp wds (L - (p + 1)) (p + 1) 0 (qm_fe (P p) (X p) inp wds (stk.headD 0) :: stk) := by
  rw [show L - p = (L - (p + 1)) + 1 by omega, qm_ex]
theorem qm_rf_0 (op a b : Int32) : qm_rf op 0 a = qm_rf op 0 b := by
  unfold qm_rf
  by_cases h : nI 0 < qm_nee op
  · rw [if_pos h, if_pos h]
  · rw [if_neg h, if_neg h]
    have n6 : ¬ op = 6 := fun q => h (by rw [q]; decide)
    have na : ¬ (op = 6 ∧ a = 0) := fun z => n6 z.1
    have nb : ¬ (op = 6 ∧ b = 0) := fun z => n6 z.1
    rw [if_neg na, if_neg nb]
theorem qm_nlt2 {a b : Int32} (h : b ≤ a) : ¬ a < b := fun q => qm_nle q h
end
section
set_option maxHeartbeats 4000000 in
set_option maxRecDepth 100000 in
theorem c_SM_needs (l : Launch) (op : Int32) : qa_Pu l y_SM_needs b_SM_needs 1 (some .int) 0 [.int op] (fun _ => True) (qm_nee op) := by
  refine qa_ofPu (plainFor_of_name (by decide)) (Nat.le_of_ble_eq_true rfl) ?_
  intro p e s m below meth c ls F hr hlocks _ hl
  have hx := F.1
  have hb := F.2.1
  have hown : s.vm.findClass "VotedFrames$StackMachine" = some m.cls := F.2.2.2.1
  have hts := F.2.2.2.2
  have hl : lv_has ls 1 [(0, .int op)] := hl
  refine lv_iload_n hx hb d_SM_needs_0 rfl (lv_at hl 0 rfl) ?_
  refine lv_iconst (v := 3) hx hb d_SM_needs_1 (by decide) ?_
  refine lv_icmp_lt hx hb d_SM_needs_2 rfl (fun h2 => ?_) (fun h2 => ?_)
  · refine lv_iload_n hx hb d_SM_needs_13 rfl (lv_at hl 0 rfl) ?_
    refine lv_bipush (v := 8) hx hb d_SM_needs_14 (by decide) ?_
    refine lv_icmp_eq hx hb d_SM_needs_16 rfl (fun h16 => ?_) (fun h16 => ?_)
    · refine lv_iconst (v := 1) hx hb d_SM_needs_25 (by decide) ?_
      refine lv_goto hx hb d_SM_needs_26 rfl ?_
      exact qa_iret hx hb hr hlocks (by unfold qm_nee; rw [if_pos (Or.inl h2), if_pos (Or.inl h16)]) d_SM_needs_30
    · refine lv_iload_n hx hb d_SM_needs_19 rfl (lv_at hl 0 rfl) ?_
      refine lv_bipush (v := 9) hx hb d_SM_needs_20 (by decide) ?_
      refine lv_icmp_ne hx hb d_SM_needs_22 rfl (fun h22 => ?_) (fun h22 => ?_)
      · refine lv_iconst (v := 0) hx hb d_SM_needs_29 (by decide) ?_
        exact qa_iret hx hb hr hlocks (by unfold qm_nee; rw [if_pos (Or.inl h2), if_neg (fun z => z.elim h16 h22)]) d_SM_needs_30
      · refine lv_iconst (v := 1) hx hb d_SM_needs_25 (by decide) ?_
        refine lv_goto hx hb d_SM_needs_26 rfl ?_
        exact qa_iret hx hb hr hlocks (by unfold qm_nee; rw [if_pos (Or.inl h2), if_pos (Or.inr h22)]) d_SM_needs_30
  · refine lv_iload_n hx hb d_SM_needs_5 rfl (lv_at hl 0 rfl) ?_
    refine lv_bipush (v := 7) hx hb d_SM_needs_6 (by decide) ?_
    refine lv_icmp_gt hx hb d_SM_needs_8 rfl (fun h8 => ?_) (fun h8 => ?_)
    · refine lv_iload_n hx hb d_SM_needs_13 rfl (lv_at hl 0 rfl) ?_
      refine lv_bipush (v := 8) hx hb d_SM_needs_14 (by decide) ?_
      refine lv_icmp_eq hx hb d_SM_needs_16 rfl (fun h16 => ?_) (fun h16 => ?_)
      · refine lv_iconst (v := 1) hx hb d_SM_needs_25 (by decide) ?_
        refine lv_goto hx hb d_SM_needs_26 rfl ?_
        exact qa_iret hx hb hr hlocks (by unfold qm_nee; rw [if_pos (Or.inr h8), if_pos (Or.inl h16)]) d_SM_needs_30
      · refine lv_iload_n hx hb d_SM_needs_19 rfl (lv_at hl 0 rfl) ?_
        refine lv_bipush (v := 9) hx hb d_SM_needs_20 (by decide) ?_
        refine lv_icmp_ne hx hb d_SM_needs_22 rfl (fun h22 => ?_) (fun h22 => ?_)
        · refine lv_iconst (v := 0) hx hb d_SM_needs_29 (by decide) ?_
          exact qa_iret hx hb hr hlocks (by unfold qm_nee; rw [if_pos (Or.inr h8), if_neg (fun z => z.elim h16 h22)]) d_SM_needs_30
        · refine lv_iconst (v := 1) hx hb d_SM_needs_25 (by decide) ?_
          refine lv_goto hx hb d_SM_needs_26 rfl ?_
          exact qa_iret hx hb hr hlocks (by unfold qm_nee; rw [if_pos (Or.inr h8), if_pos (Or.inr h22)]) d_SM_needs_30
    · refine lv_iconst (v := 2) hx hb d_SM_needs_11 (by decide) ?_
      exact qa_iret hx hb hr hlocks (by unfold qm_nee; rw [if_neg (fun z => z.elim h2 h8)]) d_SM_needs_12

set_option maxHeartbeats 4000000 in
set_option maxRecDepth 100000 in
theorem c_SM_combine (l : Launch) (op a b : Int32) : qa_Pu l y_SM_combine b_SM_combine 3 (some .int) 1 [.int op, .int a, .int b] (fun _ => True) (qm_two op a b) := by
  refine qa_ofPu (plainFor_of_name (by decide)) (Nat.le_of_ble_eq_true rfl) ?_
  intro p e s m below meth c ls F hr hlocks _ hl
  have hx := F.1
  have hb := F.2.1
  have hown : s.vm.findClass "VotedFrames$StackMachine" = some m.cls := F.2.2.2.1
  have hts := F.2.2.2.2
  have hl : lv_has ls 3 [(0, .int op), (1, .int a), (2, .int b)] := hl
  refine lv_iload_n hx hb d_SM_combine_0 rfl (lv_at hl 0 rfl) ?_
  rcases qm_sw36 op with k1 | k1 | k1 | k1 | k1
  · refine lv_tableIn (off := 31) (tgt := 32) hx hb d_SM_combine_1 (by rw [k1]; decide) (by rw [k1]; decide) (by rw [k1]; rfl) rfl ?_
    refine lv_iload_n hx hb d_SM_combine_32 rfl (lv_at hl 1 rfl) ?_
    refine lv_iload_n hx hb d_SM_combine_33 rfl (lv_at hl 2 rfl) ?_
    refine lv_iadd hx hb d_SM_combine_34 ?_
    exact qa_iret hx hb hr hlocks (by unfold qm_two; rw [if_pos k1]) d_SM_combine_35
  · refine lv_tableIn (off := 35) (tgt := 36) hx hb d_SM_combine_1 (by rw [k1]; decide) (by rw [k1]; decide) (by rw [k1]; rfl) rfl ?_
    refine lv_iload_n hx hb d_SM_combine_36 rfl (lv_at hl 1 rfl) ?_
    refine lv_iload_n hx hb d_SM_combine_37 rfl (lv_at hl 2 rfl) ?_
    refine lv_isub hx hb d_SM_combine_38 ?_
    exact qa_iret hx hb hr hlocks (by unfold qm_two; rw [if_neg (by rw [k1]; decide), if_pos k1]) d_SM_combine_39
  · refine lv_tableIn (off := 39) (tgt := 40) hx hb d_SM_combine_1 (by rw [k1]; decide) (by rw [k1]; decide) (by rw [k1]; rfl) rfl ?_
    refine lv_iload_n hx hb d_SM_combine_40 rfl (lv_at hl 1 rfl) ?_
    refine lv_iload_n hx hb d_SM_combine_41 rfl (lv_at hl 2 rfl) ?_
    refine lv_imul hx hb d_SM_combine_42 ?_
    exact qa_iret hx hb hr hlocks (by unfold qm_two; rw [if_neg (by rw [k1]; decide), if_neg (by rw [k1]; decide), if_pos k1]) d_SM_combine_43
  · refine lv_tableIn (off := 43) (tgt := 44) hx hb d_SM_combine_1 (by rw [k1]; decide) (by rw [k1]; decide) (by rw [k1]; rfl) rfl ?_
    refine lv_iload_n hx hb d_SM_combine_44 rfl (lv_at hl 2 rfl) ?_
    refine lv_if_ne hx hb d_SM_combine_45 rfl (fun h45 => ?_) (fun h45 => ?_)
    · refine lv_iload_n hx hb d_SM_combine_53 rfl (lv_at hl 1 rfl) ?_
      refine lv_iload_n hx hb d_SM_combine_54 rfl (lv_at hl 2 rfl) ?_
      refine qa_pT (As := [.int a, .int b]) F (c_JM_floorDiv l a b h45) k_SM_56 (qa_fitR (by decide) (by decide)) rfl hl.1 rfl (Nat.le_of_ble_eq_true rfl) d_SM_combine_55 ?_
      exact qa_iret hx hb hr hlocks (by unfold qm_two; rw [if_neg (by rw [k1]; decide), if_neg (by rw [k1]; decide), if_neg (by rw [k1]; decide), if_pos k1, if_neg h45]) d_SM_combine_58
    · refine lv_ldc (v := -1000000003) hx hb hown (hts _ k_SM_54) d_SM_combine_48 ?_
      refine lv_goto hx hb d_SM_combine_50 rfl ?_
      exact qa_iret hx hb hr hlocks (by unfold qm_two; rw [if_neg (by rw [k1]; decide), if_neg (by rw [k1]; decide), if_neg (by rw [k1]; decide), if_pos k1, if_pos h45]) d_SM_combine_58
  · refine lv_tableOut (tgt := 59) hx hb d_SM_combine_1 k1 rfl ?_
    refine lv_iload_n hx hb d_SM_combine_59 rfl (lv_at hl 1 rfl) ?_
    refine lv_iload_n hx hb d_SM_combine_60 rfl (lv_at hl 2 rfl) ?_
    refine lv_icmp_ge hx hb d_SM_combine_61 rfl (fun h61 => ?_) (fun h61 => ?_)
    · refine lv_iconst (v := 0) hx hb d_SM_combine_68 (by decide) ?_
      exact qa_iret hx hb hr hlocks (by unfold qm_two; rw [if_neg (qm_out_ne k1 (by decide) (by decide)), if_neg (qm_out_ne k1 (by decide) (by decide)), if_neg (qm_out_ne k1 (by decide) (by decide)), if_neg (qm_out_ne k1 (by decide) (by decide)), if_neg (qm_nlt2 h61)]) d_SM_combine_69
    · refine lv_iconst (v := 1) hx hb d_SM_combine_64 (by decide) ?_
      refine lv_goto hx hb d_SM_combine_65 rfl ?_
      exact qa_iret hx hb hr hlocks (by unfold qm_two; rw [if_neg (qm_out_ne k1 (by decide) (by decide)), if_neg (qm_out_ne k1 (by decide) (by decide)), if_neg (qm_out_ne k1 (by decide) (by decide)), if_neg (qm_out_ne k1 (by decide) (by decide)), if_pos (qm_lt h61)]) d_SM_combine_69

set_option maxHeartbeats 4000000 in
set_option maxRecDepth 100000 in
theorem c_SM_push (l : Launch) (y : qa_L) (v : qa_M) (D : Nat) (x : Int32) (hD : v 16 0 1 = nI D) (hD6 : D < 6) : qa_Mv l y_SM_push b_SM_push 2 0 [.ref (qa_a y 16 0), .int x] y v (fun u => u = qa_up (qa_up v 17 0 D x) 16 0 1 (nI (D + 1))) := by
  refine qa_ofMv (plainFor_of_name (by decide)) (Nat.le_of_ble_eq_true rfl) ?_
  intro p e s m below meth c ls E hr hlocks hC hl
  have E : qa_E p m c b_SM_push 2 s _ "VotedFrames$StackMachine" y := E
  have F := E.1
  have hx := F.1
  have hb := F.2.1
  have hown : s.vm.findClass "VotedFrames$StackMachine" = some m.cls := F.2.2.2.1
  have hts := F.2.2.2.2
  have hn4 : 4 ≤ qa_n y := E.2.1.2.2.1
  have hn7 : qa_n y ≤ 7 := E.2.1.2.2.2.1
  have hl : lv_has ls 2 [(0, .ref (qa_a y 16 0)), (1, .int x)] := hl
  refine lv_aload_n hx hb d_SM_push_0 rfl (lv_at hl 0 rfl) ?_
  refine qa_get (k := 16) (i := 0) (f := 0) (val := .ref (qa_a y 17 0)) E hC Nat.one_pos rfl rfl (by decide) f_SM_11 rfl rfl d_SM_push_1 ?_
  refine lv_aload_n hx hb d_SM_push_4 rfl (lv_at hl 0 rfl) ?_
  refine qa_get (k := 16) (i := 0) (f := 1) (val := .int (v 16 0 1)) E hC Nat.one_pos rfl rfl (by decide) f_SM_15 rfl rfl d_SM_push_5 ?_
  refine lv_iload_n hx hb d_SM_push_8 rfl (lv_at hl 1 rfl) ?_
  refine qa_ist (k := 17) (i := 0) (j := D) E hC Nat.one_pos rfl rfl hD hD6 d_SM_push_9 (fun H locs hC => ?_)
  refine lv_aload_n hx hb d_SM_push_10 rfl (lv_at hl 0 rfl) ?_
  refine lv_dup hx hb d_SM_push_11 rfl ?_
  refine qa_get (k := 16) (i := 0) (f := 1) (val := .int ((qa_up v 17 0 D x) 16 0 1)) E hC Nat.one_pos rfl rfl (by decide) f_SM_15 rfl rfl d_SM_push_12 ?_
  refine lv_iconst (v := 1) hx hb d_SM_push_15 (by decide) ?_
  refine lv_iadd hx hb d_SM_push_16 ?_
  refine qa_put (k := 16) (i := 0) (f := 1) E hC Nat.one_pos rfl rfl (by decide) f_SM_15 rfl rfl rfl rfl d_SM_push_17 (fun H locs hC => ?_)
  exact qa_mvret E hC hr hlocks (by rw [qa_up_k (by decide), hD, nI_1]) d_SM_push_20

set_option maxHeartbeats 4000000 in
set_option maxRecDepth 100000 in
theorem c_SM_pop (l : Launch) (y : qa_L) (v : qa_M) (D : Nat) (hD : v 16 0 1 = nI (D + 1)) (hD6 : D < 6) : qa_Mi l y_SM_pop b_SM_pop 1 (some .int) 0 [.ref (qa_a y 16 0)] y v (fun r u => r = v 17 0 D ∧ u = qa_up v 16 0 1 (nI D)) := by
  refine qa_ofMi (plainFor_of_name (by decide)) (Nat.le_of_ble_eq_true rfl) ?_
  intro p e s m below meth c ls E hr hlocks hC hl
  have E : qa_E p m c b_SM_pop 1 s _ "VotedFrames$StackMachine" y := E
  have F := E.1
  have hx := F.1
  have hb := F.2.1
  have hown : s.vm.findClass "VotedFrames$StackMachine" = some m.cls := F.2.2.2.1
  have hts := F.2.2.2.2
  have hn4 : 4 ≤ qa_n y := E.2.1.2.2.1
  have hn7 : qa_n y ≤ 7 := E.2.1.2.2.2.1
  have hl : lv_has ls 1 [(0, .ref (qa_a y 16 0))] := hl
  have e1 : v 16 0 1 - 1 = nI D := by rw [hD, nI_pred]
  refine lv_aload_n hx hb d_SM_pop_0 rfl (lv_at hl 0 rfl) ?_
  refine lv_dup hx hb d_SM_pop_1 rfl ?_
  refine qa_get (k := 16) (i := 0) (f := 1) (val := .int (v 16 0 1)) E hC Nat.one_pos rfl rfl (by decide) f_SM_15 rfl rfl d_SM_pop_2 ?_
  refine lv_iconst (v := 1) hx hb d_SM_pop_5 (by decide) ?_
  refine lv_isub hx hb d_SM_pop_6 ?_
  rw [e1]
  refine qa_put (k := 16) (i := 0) (f := 1) E hC Nat.one_pos rfl rfl (by decide) f_SM_15 rfl rfl rfl rfl d_SM_pop_7 (fun H locs hC => ?_)
  refine lv_aload_n hx hb d_SM_pop_10 rfl (lv_at hl 0 rfl) ?_
  refine qa_get (k := 16) (i := 0) (f := 0) (val := .ref (qa_a y 17 0)) E hC Nat.one_pos rfl rfl (by decide) f_SM_11 rfl rfl d_SM_pop_11 ?_
  refine lv_aload_n hx hb d_SM_pop_14 rfl (lv_at hl 0 rfl) ?_
  refine qa_get (k := 16) (i := 0) (f := 1) (val := .int ((qa_up v 16 0 1 (nI D)) 16 0 1)) E hC Nat.one_pos rfl rfl (by decide) f_SM_15 rfl rfl d_SM_pop_15 ?_
  refine qa_ild (k := 17) (i := 0) (j := D) E hC Nat.one_pos rfl rfl qa_up_s hD6 d_SM_pop_18 ?_
  exact qa_mret E hC hr hlocks ⟨by rw [qa_up_k (by decide)], rfl⟩ d_SM_pop_19

set_option maxHeartbeats 4000000 in
set_option maxRecDepth 100000 in
theorem c_SM_refusalOf (l : Launch) (y : qa_L) (v : qa_M) (op : Int32) (D : Nat) (hD : v 16 0 1 = nI D) (hD6 : D ≤ 6) : qa_Pu l y_SM_refusalOf b_SM_refusalOf 3 (some .int) 1 [.ref (qa_a y 16 0), .int op] (qa_W y v) (qm_rf op D (v 17 0 (D - 1))) := by
  refine qa_ofPu (plainFor_of_name (by decide)) (Nat.le_of_ble_eq_true rfl) ?_
  intro p e s m below meth c ls F hr hlocks hW hl
  have E : qa_E p m c b_SM_refusalOf 3 s _ "VotedFrames$StackMachine" y := ⟨F, hW.2⟩
  have hC : qa_C y v s s.heap [] := ⟨hW.1, va_S.rf⟩
  have hx := F.1
  have hb := F.2.1
  have hown : s.vm.findClass "VotedFrames$StackMachine" = some m.cls := F.2.2.2.1
  have hts := F.2.2.2.2
  have hn4 : 4 ≤ qa_n y := E.2.1.2.2.1
  have hn7 : qa_n y ≤ 7 := E.2.1.2.2.2.1
  have hl : lv_has ls 3 [(0, .ref (qa_a y 16 0)), (1, .int op)] := hl
  have e1 : op = 6 → ¬ nI D < qm_nee op → v 16 0 1 - 1 = nI (D - 1) ∧ D - 1 < 6 := by
    intro h6 hq
    have hd : 2 ≤ D := by
      have e : qm_nee op = nI 2 := by rw [h6]; decide
      rw [e, nI_ltI (by omega) (by omega)] at hq
      omega
    refine ⟨?_, by omega⟩
    rw [hD, show D = (D - 1) + 1 by omega, nI_pred]
    rfl
  refine lv_aload_n hx hb d_SM_refusalOf_0 rfl (lv_at hl 0 rfl) ?_
  refine qa_get (k := 16) (i := 0) (f := 1) (val := .int (v 16 0 1)) E hC Nat.one_pos rfl rfl (by decide) f_SM_15 rfl rfl d_SM_refusalOf_1 ?_
  refine lv_iload_n hx hb d_SM_refusalOf_4 rfl (lv_at hl 1 rfl) ?_
  refine qa_pT (As := [.int op]) F (c_SM_needs l op) k_SM_51 (qa_fitR (by decide) (by decide)) rfl hl.1 rfl (Nat.le_of_ble_eq_true rfl) d_SM_refusalOf_5 ?_
  refine lv_icmp_ge hx hb d_SM_refusalOf_8 rfl (fun h8 => ?_) (fun h8 => ?_)
  · refine lv_iload_n hx hb d_SM_refusalOf_14 rfl (lv_at hl 1 rfl) ?_
    refine lv_bipush (v := 6) hx hb d_SM_refusalOf_15 (by decide) ?_
    refine lv_icmp_ne hx hb d_SM_refusalOf_17 rfl (fun h17 => ?_) (fun h17 => ?_)
    · refine lv_iload_n hx hb d_SM_refusalOf_37 rfl (lv_at hl 1 rfl) ?_
      refine lv_iconst (v := 2) hx hb d_SM_refusalOf_38 (by decide) ?_
      refine lv_icmp_le hx hb d_SM_refusalOf_39 rfl (fun h39 => ?_) (fun h39 => ?_)
      · refine lv_iconst (v := 1) hx hb d_SM_refusalOf_48 (by decide) ?_
        refine lv_goto hx hb d_SM_refusalOf_49 rfl ?_
        refine lv_istore_n hx hb d_SM_refusalOf_53 rfl hl (by decide) rfl (fun ls hl => ?_)
        have hl : lv_has ls 3 [(2, .int 1), (0, .ref (qa_a y 16 0)), (1, .int op)] := hl
        refine lv_iload_n hx hb d_SM_refusalOf_54 rfl (lv_at hl 0 rfl) ?_
        refine lv_if_eq hx hb d_SM_refusalOf_55 rfl (fun h9 => absurd h9 (by decide)) (fun _ => ?_)
        refine lv_aload_n hx hb d_SM_refusalOf_58 rfl (lv_at hl 1 rfl) ?_
        refine qa_get (k := 16) (i := 0) (f := 1) (val := .int (v 16 0 1)) E hC Nat.one_pos rfl rfl (by decide) f_SM_15 rfl rfl d_SM_refusalOf_59 ?_
        refine lv_bipush (v := 6) hx hb d_SM_refusalOf_62 (by decide) ?_
        refine lv_icmp_lt hx hb d_SM_refusalOf_64 rfl (fun h64 => ?_) (fun h64 => ?_)
        · refine lv_iconst (v := 0) hx hb d_SM_refusalOf_72 (by decide) ?_
          exact qa_iret hx hb hr hlocks (by unfold qm_rf; rw [if_neg (by rw [← hD]; exact fun z => qm_nle z h8), if_neg (fun z => h17 z.1), if_neg (by rw [← hD]; exact fun z => qm_nle h64 z.2)]) d_SM_refusalOf_73
        · refine lv_ldc (v := -1000000002) hx hb hown (hts _ k_SM_55) d_SM_refusalOf_67 ?_
          refine lv_goto hx hb d_SM_refusalOf_69 rfl ?_
          exact qa_iret hx hb hr hlocks (by unfold qm_rf; rw [if_neg (by rw [← hD]; exact fun z => qm_nle z h8), if_neg (fun z => h17 z.1), if_pos ⟨Or.inl h39, by rw [← hD]; exact qm_nlt h64⟩]) d_SM_refusalOf_73
      · refine lv_iload_n hx hb d_SM_refusalOf_42 rfl (lv_at hl 1 rfl) ?_
        refine lv_bipush (v := 9) hx hb d_SM_refusalOf_43 (by decide) ?_
        refine lv_icmp_ne hx hb d_SM_refusalOf_45 rfl (fun h45 => ?_) (fun h45 => ?_)
        · refine lv_iconst (v := 0) hx hb d_SM_refusalOf_52 (by decide) ?_
          refine lv_istore_n hx hb d_SM_refusalOf_53 rfl hl (by decide) rfl (fun ls hl => ?_)
          have hl : lv_has ls 3 [(2, .int 0), (0, .ref (qa_a y 16 0)), (1, .int op)] := hl
          refine lv_iload_n hx hb d_SM_refusalOf_54 rfl (lv_at hl 0 rfl) ?_
          refine lv_if_eq hx hb d_SM_refusalOf_55 rfl (fun _ => ?_) (fun h9 => absurd rfl h9)
          refine lv_iconst (v := 0) hx hb d_SM_refusalOf_72 (by decide) ?_
          exact qa_iret hx hb hr hlocks (by unfold qm_rf; rw [if_neg (by rw [← hD]; exact fun z => qm_nle z h8), if_neg (fun z => h17 z.1), if_neg (fun z => z.1.elim h39 h45)]) d_SM_refusalOf_73
        · refine lv_iconst (v := 1) hx hb d_SM_refusalOf_48 (by decide) ?_
          refine lv_goto hx hb d_SM_refusalOf_49 rfl ?_
          refine lv_istore_n hx hb d_SM_refusalOf_53 rfl hl (by decide) rfl (fun ls hl => ?_)
          have hl : lv_has ls 3 [(2, .int 1), (0, .ref (qa_a y 16 0)), (1, .int op)] := hl
          refine lv_iload_n hx hb d_SM_refusalOf_54 rfl (lv_at hl 0 rfl) ?_
          refine lv_if_eq hx hb d_SM_refusalOf_55 rfl (fun h9 => absurd h9 (by decide)) (fun _ => ?_)
          refine lv_aload_n hx hb d_SM_refusalOf_58 rfl (lv_at hl 1 rfl) ?_
          refine qa_get (k := 16) (i := 0) (f := 1) (val := .int (v 16 0 1)) E hC Nat.one_pos rfl rfl (by decide) f_SM_15 rfl rfl d_SM_refusalOf_59 ?_
          refine lv_bipush (v := 6) hx hb d_SM_refusalOf_62 (by decide) ?_
          refine lv_icmp_lt hx hb d_SM_refusalOf_64 rfl (fun h64 => ?_) (fun h64 => ?_)
          · refine lv_iconst (v := 0) hx hb d_SM_refusalOf_72 (by decide) ?_
            exact qa_iret hx hb hr hlocks (by unfold qm_rf; rw [if_neg (by rw [← hD]; exact fun z => qm_nle z h8), if_neg (fun z => h17 z.1), if_neg (by rw [← hD]; exact fun z => qm_nle h64 z.2)]) d_SM_refusalOf_73
          · refine lv_ldc (v := -1000000002) hx hb hown (hts _ k_SM_55) d_SM_refusalOf_67 ?_
            refine lv_goto hx hb d_SM_refusalOf_69 rfl ?_
            exact qa_iret hx hb hr hlocks (by unfold qm_rf; rw [if_neg (by rw [← hD]; exact fun z => qm_nle z h8), if_neg (fun z => h17 z.1), if_pos ⟨Or.inr h45, by rw [← hD]; exact qm_nlt h64⟩]) d_SM_refusalOf_73
    · obtain ⟨e2, e3⟩ := e1 h17 (by rw [← hD]; exact fun z => qm_nle z h8)
      refine lv_aload_n hx hb d_SM_refusalOf_20 rfl (lv_at hl 0 rfl) ?_
      refine qa_get (k := 16) (i := 0) (f := 0) (val := .ref (qa_a y 17 0)) E hC Nat.one_pos rfl rfl (by decide) f_SM_11 rfl rfl d_SM_refusalOf_21 ?_
      refine lv_aload_n hx hb d_SM_refusalOf_24 rfl (lv_at hl 0 rfl) ?_
      refine qa_get (k := 16) (i := 0) (f := 1) (val := .int (v 16 0 1)) E hC Nat.one_pos rfl rfl (by decide) f_SM_15 rfl rfl d_SM_refusalOf_25 ?_
      refine lv_iconst (v := 1) hx hb d_SM_refusalOf_28 (by decide) ?_
      refine lv_isub hx hb d_SM_refusalOf_29 ?_
      refine qa_ild (k := 17) (i := 0) (j := (D - 1)) E hC Nat.one_pos rfl rfl e2 e3 d_SM_refusalOf_30 ?_
      refine lv_if_ne hx hb d_SM_refusalOf_31 rfl (fun h31 => ?_) (fun h31 => ?_)
      · refine lv_iload_n hx hb d_SM_refusalOf_37 rfl (lv_at hl 1 rfl) ?_
        refine lv_iconst (v := 2) hx hb d_SM_refusalOf_38 (by decide) ?_
        refine lv_icmp_le hx hb d_SM_refusalOf_39 rfl (fun h39 => ?_) (fun h39 => ?_)
        · refine lv_iconst (v := 1) hx hb d_SM_refusalOf_48 (by decide) ?_
          refine lv_goto hx hb d_SM_refusalOf_49 rfl ?_
          refine lv_istore_n hx hb d_SM_refusalOf_53 rfl hl (by decide) rfl (fun ls hl => ?_)
          have hl : lv_has ls 3 [(2, .int 1), (0, .ref (qa_a y 16 0)), (1, .int op)] := hl
          refine lv_iload_n hx hb d_SM_refusalOf_54 rfl (lv_at hl 0 rfl) ?_
          refine lv_if_eq hx hb d_SM_refusalOf_55 rfl (fun h9 => absurd h9 (by decide)) (fun _ => ?_)
          refine lv_aload_n hx hb d_SM_refusalOf_58 rfl (lv_at hl 1 rfl) ?_
          refine qa_get (k := 16) (i := 0) (f := 1) (val := .int (v 16 0 1)) E hC Nat.one_pos rfl rfl (by decide) f_SM_15 rfl rfl d_SM_refusalOf_59 ?_
          refine lv_bipush (v := 6) hx hb d_SM_refusalOf_62 (by decide) ?_
          refine lv_icmp_lt hx hb d_SM_refusalOf_64 rfl (fun h64 => ?_) (fun h64 => ?_)
          · refine lv_iconst (v := 0) hx hb d_SM_refusalOf_72 (by decide) ?_
            exact qa_iret hx hb hr hlocks (by unfold qm_rf; rw [if_neg (by rw [← hD]; exact fun z => qm_nle z h8), if_neg (fun z => h31 z.2), if_neg (by rw [← hD]; exact fun z => qm_nle h64 z.2)]) d_SM_refusalOf_73
          · refine lv_ldc (v := -1000000002) hx hb hown (hts _ k_SM_55) d_SM_refusalOf_67 ?_
            refine lv_goto hx hb d_SM_refusalOf_69 rfl ?_
            exact qa_iret hx hb hr hlocks (by unfold qm_rf; rw [if_neg (by rw [← hD]; exact fun z => qm_nle z h8), if_neg (fun z => h31 z.2), if_pos ⟨Or.inl h39, by rw [← hD]; exact qm_nlt h64⟩]) d_SM_refusalOf_73
        · refine lv_iload_n hx hb d_SM_refusalOf_42 rfl (lv_at hl 1 rfl) ?_
          refine lv_bipush (v := 9) hx hb d_SM_refusalOf_43 (by decide) ?_
          refine lv_icmp_ne hx hb d_SM_refusalOf_45 rfl (fun h45 => ?_) (fun h45 => ?_)
          · refine lv_iconst (v := 0) hx hb d_SM_refusalOf_52 (by decide) ?_
            refine lv_istore_n hx hb d_SM_refusalOf_53 rfl hl (by decide) rfl (fun ls hl => ?_)
            have hl : lv_has ls 3 [(2, .int 0), (0, .ref (qa_a y 16 0)), (1, .int op)] := hl
            refine lv_iload_n hx hb d_SM_refusalOf_54 rfl (lv_at hl 0 rfl) ?_
            refine lv_if_eq hx hb d_SM_refusalOf_55 rfl (fun _ => ?_) (fun h9 => absurd rfl h9)
            refine lv_iconst (v := 0) hx hb d_SM_refusalOf_72 (by decide) ?_
            exact qa_iret hx hb hr hlocks (by unfold qm_rf; rw [if_neg (by rw [← hD]; exact fun z => qm_nle z h8), if_neg (fun z => h31 z.2), if_neg (fun z => z.1.elim h39 h45)]) d_SM_refusalOf_73
          · refine lv_iconst (v := 1) hx hb d_SM_refusalOf_48 (by decide) ?_
            refine lv_goto hx hb d_SM_refusalOf_49 rfl ?_
            refine lv_istore_n hx hb d_SM_refusalOf_53 rfl hl (by decide) rfl (fun ls hl => ?_)
            have hl : lv_has ls 3 [(2, .int 1), (0, .ref (qa_a y 16 0)), (1, .int op)] := hl
            refine lv_iload_n hx hb d_SM_refusalOf_54 rfl (lv_at hl 0 rfl) ?_
            refine lv_if_eq hx hb d_SM_refusalOf_55 rfl (fun h9 => absurd h9 (by decide)) (fun _ => ?_)
            refine lv_aload_n hx hb d_SM_refusalOf_58 rfl (lv_at hl 1 rfl) ?_
            refine qa_get (k := 16) (i := 0) (f := 1) (val := .int (v 16 0 1)) E hC Nat.one_pos rfl rfl (by decide) f_SM_15 rfl rfl d_SM_refusalOf_59 ?_
            refine lv_bipush (v := 6) hx hb d_SM_refusalOf_62 (by decide) ?_
            refine lv_icmp_lt hx hb d_SM_refusalOf_64 rfl (fun h64 => ?_) (fun h64 => ?_)
            · refine lv_iconst (v := 0) hx hb d_SM_refusalOf_72 (by decide) ?_
              exact qa_iret hx hb hr hlocks (by unfold qm_rf; rw [if_neg (by rw [← hD]; exact fun z => qm_nle z h8), if_neg (fun z => h31 z.2), if_neg (by rw [← hD]; exact fun z => qm_nle h64 z.2)]) d_SM_refusalOf_73
            · refine lv_ldc (v := -1000000002) hx hb hown (hts _ k_SM_55) d_SM_refusalOf_67 ?_
              refine lv_goto hx hb d_SM_refusalOf_69 rfl ?_
              exact qa_iret hx hb hr hlocks (by unfold qm_rf; rw [if_neg (by rw [← hD]; exact fun z => qm_nle z h8), if_neg (fun z => h31 z.2), if_pos ⟨Or.inr h45, by rw [← hD]; exact qm_nlt h64⟩]) d_SM_refusalOf_73
      · refine lv_ldc (v := -1000000003) hx hb hown (hts _ k_SM_54) d_SM_refusalOf_34 ?_
        exact qa_iret hx hb hr hlocks (by unfold qm_rf; rw [if_neg (by rw [← hD]; exact fun z => qm_nle z h8), if_pos ⟨h17, h31⟩]) d_SM_refusalOf_36
  · refine lv_ldc (v := -1000000001) hx hb hown (hts _ k_SM_50) d_SM_refusalOf_11 ?_
    exact qa_iret hx hb hr hlocks (by unfold qm_rf; rw [if_pos (by rw [← hD]; exact qm_lt h8)]) d_SM_refusalOf_13

set_option maxHeartbeats 4000000 in
set_option maxRecDepth 100000 in
theorem c_SM_fetch_5_7 (l : Launch) (y : qa_L) (v : qa_M) (i : Nat) (op x : Int32) (D : Nat) (hi : i < qa_n y) (hok : qm_iok (qa_n y) op x) (hD : v 16 0 1 = nI D) (hD6 : D ≤ 6) (h9 : op = 9 → 1 ≤ D) : qa_Pu l y_SM_fetch b_SM_fetch 5 (some .int) 0 [.ref (qa_a y 16 0), .int op, .int x, .ref (qa_a y 5 i), .ref (qa_a y 7 i)] (qa_W y v) (qm_fe op x (v 5 i) (v 7 i) (v 17 0 (D - 1))) := by
  refine qa_ofPu (plainFor_of_name (by decide)) (Nat.le_of_ble_eq_true rfl) ?_
  intro p e s m below meth c ls F hr hlocks hW hl
  have E : qa_E p m c b_SM_fetch 5 s _ "VotedFrames$StackMachine" y := ⟨F, hW.2⟩
  have hC : qa_C y v s s.heap [] := ⟨hW.1, va_S.rf⟩
  have hx := F.1
  have hb := F.2.1
  have hown : s.vm.findClass "VotedFrames$StackMachine" = some m.cls := F.2.2.2.1
  have hts := F.2.2.2.2
  have hn4 : 4 ≤ qa_n y := E.2.1.2.2.1
  have hn7 : qa_n y ≤ 7 := E.2.1.2.2.2.1
  have hl : lv_has ls 5 [(0, .ref (qa_a y 16 0)), (1, .int op), (2, .int x), (3, .ref (qa_a y 5 i)), (4, .ref (qa_a y 7 i))] := hl
  refine lv_iload_n hx hb d_SM_fetch_0 rfl (lv_at hl 1 rfl) ?_
  by_cases k1 : op = 1
  · refine lv_lookup (off := 35) (tgt := 36) hx hb d_SM_fetch_1 rfl (by rw [k1]; rfl) rfl ?_
    obtain ⟨j, hj, e5⟩ := hok.2.1 k1
    refine lv_aload_n hx hb d_SM_fetch_36 rfl (lv_at hl 3 rfl) ?_
    refine lv_iload_n hx hb d_SM_fetch_37 rfl (lv_at hl 2 rfl) ?_
    refine qa_ild (k := 5) (i := i) (j := j) E hC hi rfl rfl e5 hj d_SM_fetch_38 ?_
    exact qa_iret hx hb hr hlocks (by unfold qm_fe; rw [if_pos k1, e5, qm_ix_n (by omega)]) d_SM_fetch_39
  by_cases k2 : op = 2
  · refine lv_lookup (off := 39) (tgt := 40) hx hb d_SM_fetch_1 rfl (by rw [k2]; rfl) rfl ?_
    obtain ⟨j, hj, e5⟩ := hok.2.2.1 k2
    refine lv_aload hx hb d_SM_fetch_40 (lv_at hl 4 rfl) ?_
    refine lv_iload_n hx hb d_SM_fetch_42 rfl (lv_at hl 2 rfl) ?_
    refine qa_ild (k := 7) (i := i) (j := j) E hC hi rfl rfl e5 hj d_SM_fetch_43 ?_
    exact qa_iret hx hb hr hlocks (by unfold qm_fe; rw [if_neg k1, if_pos k2, e5, qm_ix_n (by omega)]) d_SM_fetch_44
  by_cases k9 : op = 9
  · refine lv_lookup (off := 44) (tgt := 45) hx hb d_SM_fetch_1 rfl (by rw [k9]; rfl) rfl ?_
    have e6 := h9 k9
    have e5 : v 16 0 1 - 1 = nI (D - 1) := by rw [hD, show D = (D - 1) + 1 by omega, nI_pred]; rfl
    refine lv_aload_n hx hb d_SM_fetch_45 rfl (lv_at hl 0 rfl) ?_
    refine qa_get (k := 16) (i := 0) (f := 0) (val := .ref (qa_a y 17 0)) E hC Nat.one_pos rfl rfl (by decide) f_SM_11 rfl rfl d_SM_fetch_46 ?_
    refine lv_aload_n hx hb d_SM_fetch_49 rfl (lv_at hl 0 rfl) ?_
    refine qa_get (k := 16) (i := 0) (f := 1) (val := .int (v 16 0 1)) E hC Nat.one_pos rfl rfl (by decide) f_SM_15 rfl rfl d_SM_fetch_50 ?_
    refine lv_iconst (v := 1) hx hb d_SM_fetch_53 (by decide) ?_
    refine lv_isub hx hb d_SM_fetch_54 ?_
    refine qa_ild (k := 17) (i := 0) (j := (D - 1)) E hC Nat.one_pos rfl rfl e5 (show D - 1 < 6 by omega) d_SM_fetch_55 ?_
    exact qa_iret hx hb hr hlocks (by unfold qm_fe; rw [if_neg k1, if_neg k2, if_pos k9]) d_SM_fetch_56
  refine lv_lookup (off := 56) (tgt := 57) hx hb d_SM_fetch_1 rfl (show Op.lookupswitch.offset [(1, 35), (2, 39), (9, 44)] 56 _ = 56 from ((lv_osw k1 rfl).trans ((lv_osw k2 rfl).trans ((lv_osw k9 rfl).trans rfl)))) rfl ?_
  refine lv_iload_n hx hb d_SM_fetch_57 rfl (lv_at hl 2 rfl) ?_
  exact qa_iret hx hb hr hlocks (by unfold qm_fe; rw [if_neg k1, if_neg k2, if_neg k9]) d_SM_fetch_58

set_option maxHeartbeats 4000000 in
set_option maxRecDepth 100000 in
theorem c_SM_fetch_5_18 (l : Launch) (y : qa_L) (v : qa_M) (i : Nat) (op x : Int32) (D : Nat) (hi : i < qa_n y) (hok : qm_iok (qa_n y) op x) (hD : v 16 0 1 = nI D) (hD6 : D ≤ 6) (h9 : op = 9 → 1 ≤ D) : qa_Pu l y_SM_fetch b_SM_fetch 5 (some .int) 0 [.ref (qa_a y 16 0), .int op, .int x, .ref (qa_a y 5 i), .ref (qa_a y 18 0)] (qa_W y v) (qm_fe op x (v 5 i) (v 18 0) (v 17 0 (D - 1))) := by
  refine qa_ofPu (plainFor_of_name (by decide)) (Nat.le_of_ble_eq_true rfl) ?_
  intro p e s m below meth c ls F hr hlocks hW hl
  have E : qa_E p m c b_SM_fetch 5 s _ "VotedFrames$StackMachine" y := ⟨F, hW.2⟩
  have hC : qa_C y v s s.heap [] := ⟨hW.1, va_S.rf⟩
  have hx := F.1
  have hb := F.2.1
  have hown : s.vm.findClass "VotedFrames$StackMachine" = some m.cls := F.2.2.2.1
  have hts := F.2.2.2.2
  have hn4 : 4 ≤ qa_n y := E.2.1.2.2.1
  have hn7 : qa_n y ≤ 7 := E.2.1.2.2.2.1
  have hl : lv_has ls 5 [(0, .ref (qa_a y 16 0)), (1, .int op), (2, .int x), (3, .ref (qa_a y 5 i)), (4, .ref (qa_a y 18 0))] := hl
  refine lv_iload_n hx hb d_SM_fetch_0 rfl (lv_at hl 1 rfl) ?_
  by_cases k1 : op = 1
  · refine lv_lookup (off := 35) (tgt := 36) hx hb d_SM_fetch_1 rfl (by rw [k1]; rfl) rfl ?_
    obtain ⟨j, hj, e5⟩ := hok.2.1 k1
    refine lv_aload_n hx hb d_SM_fetch_36 rfl (lv_at hl 3 rfl) ?_
    refine lv_iload_n hx hb d_SM_fetch_37 rfl (lv_at hl 2 rfl) ?_
    refine qa_ild (k := 5) (i := i) (j := j) E hC hi rfl rfl e5 hj d_SM_fetch_38 ?_
    exact qa_iret hx hb hr hlocks (by unfold qm_fe; rw [if_pos k1, e5, qm_ix_n (by omega)]) d_SM_fetch_39
  by_cases k2 : op = 2
  · refine lv_lookup (off := 39) (tgt := 40) hx hb d_SM_fetch_1 rfl (by rw [k2]; rfl) rfl ?_
    obtain ⟨j, hj, e5⟩ := hok.2.2.1 k2
    refine lv_aload hx hb d_SM_fetch_40 (lv_at hl 4 rfl) ?_
    refine lv_iload_n hx hb d_SM_fetch_42 rfl (lv_at hl 2 rfl) ?_
    refine qa_ild (k := 18) (i := 0) (j := j) E hC Nat.one_pos rfl rfl e5 hj d_SM_fetch_43 ?_
    exact qa_iret hx hb hr hlocks (by unfold qm_fe; rw [if_neg k1, if_pos k2, e5, qm_ix_n (by omega)]) d_SM_fetch_44
  by_cases k9 : op = 9
  · refine lv_lookup (off := 44) (tgt := 45) hx hb d_SM_fetch_1 rfl (by rw [k9]; rfl) rfl ?_
    have e6 := h9 k9
    have e5 : v 16 0 1 - 1 = nI (D - 1) := by rw [hD, show D = (D - 1) + 1 by omega, nI_pred]; rfl
    refine lv_aload_n hx hb d_SM_fetch_45 rfl (lv_at hl 0 rfl) ?_
    refine qa_get (k := 16) (i := 0) (f := 0) (val := .ref (qa_a y 17 0)) E hC Nat.one_pos rfl rfl (by decide) f_SM_11 rfl rfl d_SM_fetch_46 ?_
    refine lv_aload_n hx hb d_SM_fetch_49 rfl (lv_at hl 0 rfl) ?_
    refine qa_get (k := 16) (i := 0) (f := 1) (val := .int (v 16 0 1)) E hC Nat.one_pos rfl rfl (by decide) f_SM_15 rfl rfl d_SM_fetch_50 ?_
    refine lv_iconst (v := 1) hx hb d_SM_fetch_53 (by decide) ?_
    refine lv_isub hx hb d_SM_fetch_54 ?_
    refine qa_ild (k := 17) (i := 0) (j := (D - 1)) E hC Nat.one_pos rfl rfl e5 (show D - 1 < 6 by omega) d_SM_fetch_55 ?_
    exact qa_iret hx hb hr hlocks (by unfold qm_fe; rw [if_neg k1, if_neg k2, if_pos k9]) d_SM_fetch_56
  refine lv_lookup (off := 56) (tgt := 57) hx hb d_SM_fetch_1 rfl (show Op.lookupswitch.offset [(1, 35), (2, 39), (9, 44)] 56 _ = 56 from ((lv_osw k1 rfl).trans ((lv_osw k2 rfl).trans ((lv_osw k9 rfl).trans rfl)))) rfl ?_
  refine lv_iload_n hx hb d_SM_fetch_57 rfl (lv_at hl 2 rfl) ?_
  exact qa_iret hx hb hr hlocks (by unfold qm_fe; rw [if_neg k1, if_neg k2, if_neg k9]) d_SM_fetch_58

set_option maxHeartbeats 4000000 in
set_option maxRecDepth 100000 in
theorem c_SM_fetch_19_18 (l : Launch) (y : qa_L) (v : qa_M) (op x : Int32) (D : Nat) (hok : qm_iok (qa_n y) op x) (hD : v 16 0 1 = nI D) (hD6 : D ≤ 6) (h9 : op = 9 → 1 ≤ D) : qa_Pu l y_SM_fetch b_SM_fetch 5 (some .int) 0 [.ref (qa_a y 16 0), .int op, .int x, .ref (qa_a y 19 0), .ref (qa_a y 18 0)] (qa_W y v) (qm_fe op x (v 19 0) (v 18 0) (v 17 0 (D - 1))) := by
  refine qa_ofPu (plainFor_of_name (by decide)) (Nat.le_of_ble_eq_true rfl) ?_
  intro p e s m below meth c ls F hr hlocks hW hl
  have E : qa_E p m c b_SM_fetch 5 s _ "VotedFrames$StackMachine" y := ⟨F, hW.2⟩
  have hC : qa_C y v s s.heap [] := ⟨hW.1, va_S.rf⟩
  have hx := F.1
  have hb := F.2.1
  have hown : s.vm.findClass "VotedFrames$StackMachine" = some m.cls := F.2.2.2.1
  have hts := F.2.2.2.2
  have hn4 : 4 ≤ qa_n y := E.2.1.2.2.1
  have hn7 : qa_n y ≤ 7 := E.2.1.2.2.2.1
  have hl : lv_has ls 5 [(0, .ref (qa_a y 16 0)), (1, .int op), (2, .int x), (3, .ref (qa_a y 19 0)), (4, .ref (qa_a y 18 0))] := hl
  refine lv_iload_n hx hb d_SM_fetch_0 rfl (lv_at hl 1 rfl) ?_
  by_cases k1 : op = 1
  · refine lv_lookup (off := 35) (tgt := 36) hx hb d_SM_fetch_1 rfl (by rw [k1]; rfl) rfl ?_
    obtain ⟨j, hj, e5⟩ := hok.2.1 k1
    refine lv_aload_n hx hb d_SM_fetch_36 rfl (lv_at hl 3 rfl) ?_
    refine lv_iload_n hx hb d_SM_fetch_37 rfl (lv_at hl 2 rfl) ?_
    refine qa_ild (k := 19) (i := 0) (j := j) E hC Nat.one_pos rfl rfl e5 hj d_SM_fetch_38 ?_
    exact qa_iret hx hb hr hlocks (by unfold qm_fe; rw [if_pos k1, e5, qm_ix_n (by omega)]) d_SM_fetch_39
  by_cases k2 : op = 2
  · refine lv_lookup (off := 39) (tgt := 40) hx hb d_SM_fetch_1 rfl (by rw [k2]; rfl) rfl ?_
    obtain ⟨j, hj, e5⟩ := hok.2.2.1 k2
    refine lv_aload hx hb d_SM_fetch_40 (lv_at hl 4 rfl) ?_
    refine lv_iload_n hx hb d_SM_fetch_42 rfl (lv_at hl 2 rfl) ?_
    refine qa_ild (k := 18) (i := 0) (j := j) E hC Nat.one_pos rfl rfl e5 hj d_SM_fetch_43 ?_
    exact qa_iret hx hb hr hlocks (by unfold qm_fe; rw [if_neg k1, if_pos k2, e5, qm_ix_n (by omega)]) d_SM_fetch_44
  by_cases k9 : op = 9
  · refine lv_lookup (off := 44) (tgt := 45) hx hb d_SM_fetch_1 rfl (by rw [k9]; rfl) rfl ?_
    have e6 := h9 k9
    have e5 : v 16 0 1 - 1 = nI (D - 1) := by rw [hD, show D = (D - 1) + 1 by omega, nI_pred]; rfl
    refine lv_aload_n hx hb d_SM_fetch_45 rfl (lv_at hl 0 rfl) ?_
    refine qa_get (k := 16) (i := 0) (f := 0) (val := .ref (qa_a y 17 0)) E hC Nat.one_pos rfl rfl (by decide) f_SM_11 rfl rfl d_SM_fetch_46 ?_
    refine lv_aload_n hx hb d_SM_fetch_49 rfl (lv_at hl 0 rfl) ?_
    refine qa_get (k := 16) (i := 0) (f := 1) (val := .int (v 16 0 1)) E hC Nat.one_pos rfl rfl (by decide) f_SM_15 rfl rfl d_SM_fetch_50 ?_
    refine lv_iconst (v := 1) hx hb d_SM_fetch_53 (by decide) ?_
    refine lv_isub hx hb d_SM_fetch_54 ?_
    refine qa_ild (k := 17) (i := 0) (j := (D - 1)) E hC Nat.one_pos rfl rfl e5 (show D - 1 < 6 by omega) d_SM_fetch_55 ?_
    exact qa_iret hx hb hr hlocks (by unfold qm_fe; rw [if_neg k1, if_neg k2, if_pos k9]) d_SM_fetch_56
  refine lv_lookup (off := 56) (tgt := 57) hx hb d_SM_fetch_1 rfl (show Op.lookupswitch.offset [(1, 35), (2, 39), (9, 44)] 56 _ = 56 from ((lv_osw k1 rfl).trans ((lv_osw k2 rfl).trans ((lv_osw k9 rfl).trans rfl)))) rfl ?_
  refine lv_iload_n hx hb d_SM_fetch_57 rfl (lv_at hl 2 rfl) ?_
  exact qa_iret hx hb hr hlocks (by unfold qm_fe; rw [if_neg k1, if_neg k2, if_neg k9]) d_SM_fetch_58

set_option maxHeartbeats 4000000 in
set_option maxRecDepth 100000 in
theorem c_SM_resultOf_5_7 (l : Launch) (y : qa_L) (v : qa_M) (t L : Nat) (i : Nat) (ht : t < 4) (hL : v 13 t 2 = nI L) (hL12 : L ≤ 12) (hP : ∀ z, z < L → qm_iok (qa_n y) (v 14 t z) (v 15 t z)) (hi : i < qa_n y) : qa_Mi l y_SM_resultOf b_SM_resultOf 11 (some .int) 2 [.ref (qa_a y 16 0), .ref (qa_a y 13 t), .ref (qa_a y 5 i), .ref (qa_a y 7 i)] y v (fun r u => r = qm_ex (v 14 t) (v 15 t) (v 5 i) (v 7 i) L 0 0 [] ∧ ∀ k, k ≠ 16 → k ≠ 17 → u k = v k) := by
  refine qa_ofMi (plainFor_of_name (by decide)) (Nat.le_of_ble_eq_true rfl) ?_
  intro p e s m below meth c ls E hr hlocks hC hl
  have E : qa_E p m c b_SM_resultOf 11 s _ "VotedFrames$StackMachine" y := E
  have F := E.1
  have hx := F.1
  have hb := F.2.1
  have hown : s.vm.findClass "VotedFrames$StackMachine" = some m.cls := F.2.2.2.1
  have hts := F.2.2.2.2
  have hn4 : 4 ≤ qa_n y := E.2.1.2.2.1
  have hn7 : qa_n y ≤ 7 := E.2.1.2.2.2.1
  have hl : lv_has ls 11 [(0, .ref (qa_a y 16 0)), (1, .ref (qa_a y 13 t)), (2, .ref (qa_a y 5 i)), (3, .ref (qa_a y 7 i))] := hl
  have loop : ∀ (d z : Nat) (u : qa_M) (H : Heap) (locs : List Loc) (kk : Nat) (stk : List Int32) (ls : Array Slot), z + d = L → qa_C y u s H locs → (stk.length ≤ 6 ∧ u 16 0 1 = nI stk.length ∧ qm_st (u 17 0) stk ∧ (∀ k, k ≠ 16 → k ≠ 17 → u k = v k) ∧ kk ≤ 11 ∧ qm_ex (v 14 t) (v 15 t) (v 5 i) (v 7 i) (L - z) z kk stk = qm_ex (v 14 t) (v 15 t) (v 5 i) (v 7 i) L 0 0 []) → lv_has ls 11 [(5, .int (nI z)), (4, .int (nI kk)), (0, .ref (qa_a y 16 0)), (1, .ref (qa_a y 13 t)), (2, .ref (qa_a y 5 i)), (3, .ref (qa_a y 7 i))] → W p l e (qa_R 2) s m [.ref (qa_a y 16 0), .ref (qa_a y 13 t), .ref (qa_a y 5 i), .ref (qa_a y 7 i)].toArray below meth c H locs 0 0 (MQ below (va_Qi (fun r u => r = qm_ex (v 14 t) (v 15 t) (v 5 i) (v 7 i) L 0 0 [] ∧ ∀ k, k ≠ 16 → k ≠ 17 → u k = v k) (fun u t => qa_W y u t) (qa_A y)) [.ref (qa_a y 16 0), .ref (qa_a y 13 t), .ref (qa_a y 5 i), .ref (qa_a y 7 i)].toArray s 0 0 (qa_A y)) (F0 m 11 ls []) := by
    intro d
    induction d with
    | zero =>
      intro z u H locs kk stk ls hkd hC hI hl
      obtain rfl : L = z := by omega
      obtain ⟨i1, i2, i3, i4, i5, i6⟩ := hI
      have hq : u 13 t 2 = nI L := by rw [i4 13 (by decide) (by decide)]; exact hL
      cases stk with
      | nil =>
        have e8 : (-1000000001 : Int32) = qm_ex (v 14 t) (v 15 t) (v 5 i) (v 7 i) 0 L kk [] := by unfold qm_ex; rfl
        refine lv_iload hx hb d_SM_resultOf_11 (lv_at hl 0 rfl) ?_
        refine lv_aload_n hx hb d_SM_resultOf_13 rfl (lv_at hl 3 rfl) ?_
        refine qa_get (k := 13) (i := t) (f := 2) (val := .int (u 13 t 2)) E hC ht rfl rfl (by decide) f_SM_19 rfl rfl d_SM_resultOf_14 ?_
        refine lv_icmp_ge hx hb d_SM_resultOf_17 rfl (fun _ => ?_) (fun h9 => absurd (by rw [hq]; exact nI_le (Nat.le_refl _) (by omega)) h9)
        refine lv_aload_n hx hb d_SM_resultOf_151 rfl (lv_at hl 2 rfl) ?_
        refine qa_get (k := 16) (i := 0) (f := 1) (val := .int (u 16 0 1)) E hC Nat.one_pos rfl rfl (by decide) f_SM_15 rfl rfl d_SM_resultOf_152 ?_
        refine lv_if_ne hx hb d_SM_resultOf_155 rfl (fun h9 => absurd i2 h9) (fun _ => ?_)
        refine lv_ldc (v := -1000000001) hx hb hown (hts _ k_SM_50) d_SM_resultOf_158 ?_
        refine lv_goto hx hb d_SM_resultOf_160 rfl ?_
        exact qa_mret E hC hr hlocks ⟨by rw [← i6, Nat.sub_self]; exact e8, i4⟩ d_SM_resultOf_174
      | cons b r =>
        have e7 : u 16 0 1 - 1 = nI r.length := by rw [i2, List.length_cons, nI_pred]
        have e8 : u 17 0 r.length = qm_ex (v 14 t) (v 15 t) (v 5 i) (v 7 i) 0 L kk (b :: r) := by unfold qm_ex; exact i3.1
        have e6 : r.length < 6 := by simp at i1; omega
        refine lv_iload hx hb d_SM_resultOf_11 (lv_at hl 0 rfl) ?_
        refine lv_aload_n hx hb d_SM_resultOf_13 rfl (lv_at hl 3 rfl) ?_
        refine qa_get (k := 13) (i := t) (f := 2) (val := .int (u 13 t 2)) E hC ht rfl rfl (by decide) f_SM_19 rfl rfl d_SM_resultOf_14 ?_
        refine lv_icmp_ge hx hb d_SM_resultOf_17 rfl (fun _ => ?_) (fun h9 => absurd (by rw [hq]; exact nI_le (Nat.le_refl _) (by omega)) h9)
        refine lv_aload_n hx hb d_SM_resultOf_151 rfl (lv_at hl 2 rfl) ?_
        refine qa_get (k := 16) (i := 0) (f := 1) (val := .int (u 16 0 1)) E hC Nat.one_pos rfl rfl (by decide) f_SM_15 rfl rfl d_SM_resultOf_152 ?_
        refine lv_if_ne hx hb d_SM_resultOf_155 rfl (fun _ => ?_) (fun h9 => absurd h9 (by rw [i2]; exact nI_ne0 (by simp) (by omega)))
        refine lv_aload_n hx hb d_SM_resultOf_163 rfl (lv_at hl 2 rfl) ?_
        refine qa_get (k := 16) (i := 0) (f := 0) (val := .ref (qa_a y 17 0)) E hC Nat.one_pos rfl rfl (by decide) f_SM_11 rfl rfl d_SM_resultOf_164 ?_
        refine lv_aload_n hx hb d_SM_resultOf_167 rfl (lv_at hl 2 rfl) ?_
        refine qa_get (k := 16) (i := 0) (f := 1) (val := .int (u 16 0 1)) E hC Nat.one_pos rfl rfl (by decide) f_SM_15 rfl rfl d_SM_resultOf_168 ?_
        refine lv_iconst (v := 1) hx hb d_SM_resultOf_171 (by decide) ?_
        refine lv_isub hx hb d_SM_resultOf_172 ?_
        refine qa_ild (k := 17) (i := 0) (j := r.length) E hC Nat.one_pos rfl rfl e7 e6 d_SM_resultOf_173 ?_
        exact qa_mret E hC hr hlocks ⟨by rw [← i6, Nat.sub_self]; exact e8, i4⟩ d_SM_resultOf_174
    | succ d ih =>
      intro z u H locs kk stk ls hkd hC hI hl
      have hz : z < L := by omega
      obtain ⟨i1, i2, i3, i4, i5, i6⟩ := hI
      have hq : u 13 t 2 = nI L := by rw [i4 13 (by decide) (by decide)]; exact hL
      have hz12 : z < 12 := by omega
      refine lv_iload hx hb d_SM_resultOf_11 (lv_at hl 0 rfl) ?_
      refine lv_aload_n hx hb d_SM_resultOf_13 rfl (lv_at hl 3 rfl) ?_
      refine qa_get (k := 13) (i := t) (f := 2) (val := .int (u 13 t 2)) E hC ht rfl rfl (by decide) f_SM_19 rfl rfl d_SM_resultOf_14 ?_
      refine lv_icmp_ge hx hb d_SM_resultOf_17 rfl (fun h9 => absurd h9 (by rw [hq]; exact nI_ge hz (by omega))) (fun _ => ?_)
      refine lv_iload hx hb d_SM_resultOf_20 (lv_at hl 1 rfl) ?_
      refine lv_if_le hx hb d_SM_resultOf_22 rfl (fun h22 => ?_) (fun h22 => ?_)
      · obtain rfl : kk = 0 := by
          rcases kk with _ | q
          · rfl
          · exact absurd h22 (nI_nle (by omega) (by omega))
        have hl : lv_has ls 11 [(5, .int (nI z)), (4, .int (nI 0)), (0, .ref (qa_a y 16 0)), (1, .ref (qa_a y 13 t)), (2, .ref (qa_a y 5 i)), (3, .ref (qa_a y 7 i))] := hl
        have o1 : u 14 t = v 14 t := by rw [i4 14 (by decide) (by decide)]
        have o2 : u 15 t = v 15 t := by rw [i4 15 (by decide) (by decide)]
        have hok : qm_iok (qa_n y) (u 14 t z) (u 15 t z) := by rw [o1, o2]; exact hP z hz
        have o3 : u 5 = v 5 := i4 5 (by decide) (by decide)
        have o4 : u 7 = v 7 := i4 7 (by decide) (by decide)
        have htop : stk.length ≠ 0 → u 17 0 (stk.length - 1) = stk.headD 0 := by
          intro hne
          cases stk with
          | nil => exact absurd rfl hne
          | cons b r => exact i3.1
        refine lv_aload_n hx hb d_SM_resultOf_31 rfl (lv_at hl 3 rfl) ?_
        refine qa_get (k := 13) (i := t) (f := 0) (val := .ref (qa_a y 14 t)) E hC ht rfl rfl (by decide) f_SM_24 rfl rfl d_SM_resultOf_32 ?_
        refine lv_iload hx hb d_SM_resultOf_35 (lv_at hl 0 rfl) ?_
        refine qa_ild (k := 14) (i := t) (j := z) E hC ht rfl rfl rfl hz12 d_SM_resultOf_37 ?_
        refine lv_istore hx hb d_SM_resultOf_38 hl (by decide) rfl (fun ls hl => ?_)
        have hl : lv_has ls 11 [(6, .int (u 14 t z)), (5, .int (nI z)), (4, .int (nI 0)), (0, .ref (qa_a y 16 0)), (1, .ref (qa_a y 13 t)), (2, .ref (qa_a y 5 i)), (3, .ref (qa_a y 7 i))] := hl
        refine lv_aload_n hx hb d_SM_resultOf_40 rfl (lv_at hl 4 rfl) ?_
        refine qa_get (k := 13) (i := t) (f := 1) (val := .ref (qa_a y 15 t)) E hC ht rfl rfl (by decide) f_SM_27 rfl rfl d_SM_resultOf_41 ?_
        refine lv_iload hx hb d_SM_resultOf_44 (lv_at hl 1 rfl) ?_
        refine qa_ild (k := 15) (i := t) (j := z) E hC ht rfl rfl rfl hz12 d_SM_resultOf_46 ?_
        refine lv_istore hx hb d_SM_resultOf_47 hl (by decide) rfl (fun ls hl => ?_)
        have hl : lv_has ls 11 [(7, .int (u 15 t z)), (6, .int (u 14 t z)), (5, .int (nI z)), (4, .int (nI 0)), (0, .ref (qa_a y 16 0)), (1, .ref (qa_a y 13 t)), (2, .ref (qa_a y 5 i)), (3, .ref (qa_a y 7 i))] := hl
        refine lv_aload_n hx hb d_SM_resultOf_49 rfl (lv_at hl 4 rfl) ?_
        refine lv_iload hx hb d_SM_resultOf_50 (lv_at hl 1 rfl) ?_
        refine qa_pV (k := 16) (i := 0) (As := [.int (u 14 t z)]) E hC (c_SM_refusalOf l y u (u 14 t z) stk.length i2 i1) Nat.one_pos rfl rfl k_SM_30 (qa_fitR (by decide) (by decide)) rfl hl.1 rfl (Nat.le_of_ble_eq_true rfl) d_SM_resultOf_52 ?_
        refine lv_topi (fun rv rv9 => ?_)
        have r9 : rv = qm_rf (v 14 t z) stk.length (stk.headD 0) := by
          rw [rv9, o1]
          by_cases hne : stk.length = 0
          · cases stk with
            | nil => exact qm_rf_0 _ _ _
            | cons b r => simp at hne
          · rw [htop hne]
        refine lv_istore hx hb d_SM_resultOf_55 hl (by decide) rfl (fun ls hl => ?_)
        have hl : lv_has ls 11 [(8, .int rv), (7, .int (u 15 t z)), (6, .int (u 14 t z)), (5, .int (nI z)), (4, .int (nI 0)), (0, .ref (qa_a y 16 0)), (1, .ref (qa_a y 13 t)), (2, .ref (qa_a y 5 i)), (3, .ref (qa_a y 7 i))] := hl
        refine lv_iload hx hb d_SM_resultOf_57 (lv_at hl 0 rfl) ?_
        refine lv_if_eq hx hb d_SM_resultOf_59 rfl (fun h59 => ?_) (fun h59 => ?_)
        · have r0 : qm_rf (v 14 t z) stk.length (stk.headD 0) = 0 := by rw [← r9]; exact h59
          refine lv_iload hx hb d_SM_resultOf_65 (lv_at hl 2 rfl) ?_
          refine lv_bipush (v := 8) hx hb d_SM_resultOf_67 (by decide) ?_
          refine lv_icmp_ne hx hb d_SM_resultOf_69 rfl (fun h69 => ?_) (fun h69 => ?_)
          · refine lv_iload hx hb d_SM_resultOf_90 (lv_at hl 2 rfl) ?_
            refine lv_iconst (v := 3) hx hb d_SM_resultOf_92 (by decide) ?_
            refine lv_icmp_lt hx hb d_SM_resultOf_93 rfl (fun h93 => ?_) (fun h93 => ?_)
            · have o9 : u 14 t z ≤ 2 ∨ u 14 t z = 9 := qm_op29 hok.1 h69 (Or.inl h93)
              have d6 := qm_rf_d6 (by rw [← o1] at r0; exact r0) i1 o9
              refine lv_aload_n hx hb d_SM_resultOf_131 rfl (lv_at hl 5 rfl) ?_
              refine lv_aload_n hx hb d_SM_resultOf_132 rfl (lv_at hl 5 rfl) ?_
              refine lv_iload hx hb d_SM_resultOf_133 (lv_at hl 2 rfl) ?_
              refine lv_iload hx hb d_SM_resultOf_135 (lv_at hl 1 rfl) ?_
              refine lv_aload_n hx hb d_SM_resultOf_137 rfl (lv_at hl 7 rfl) ?_
              refine lv_aload_n hx hb d_SM_resultOf_138 rfl (lv_at hl 8 rfl) ?_
              refine qa_pV (k := 16) (i := 0) (As := [.int (u 14 t z), .int (u 15 t z), .ref (qa_a y 5 i), .ref (qa_a y 7 i)]) E hC (c_SM_fetch_5_7 l y u i (u 14 t z) (u 15 t z) stk.length hi hok i2 i1 (fun q9 => qm_rf_d1 (by rw [← o1] at r0; exact r0) i1 (Or.inr q9))) Nat.one_pos rfl rfl k_SM_46 (qa_fitR (by decide) (by decide)) rfl hl.1 rfl (Nat.le_of_ble_eq_true rfl) d_SM_resultOf_139 ?_
              refine qa_mVv (k := 16) (i := 0) (As := [.int (qm_fe (u 14 t z) (u 15 t z) (u 5 i) (u 7 i) (u 17 0 (stk.length - 1)))]) E hC (c_SM_push l y u stk.length (qm_fe (u 14 t z) (u 15 t z) (u 5 i) (u 7 i) (u 17 0 (stk.length - 1))) i2 d6) Nat.one_pos rfl rfl k_SM_42 (qa_fitR (by decide) (by decide)) rfl hl.1 rfl (Nat.le_of_ble_eq_true rfl) d_SM_resultOf_142 (fun u1 H locs hp1 hC => ?_)
              have g3 := hp1
              have f9 : qm_fe (u 14 t z) (u 15 t z) (u 5 i) (u 7 i) (u 17 0 (stk.length - 1)) = qm_fe (v 14 t z) (v 15 t z) (v 5 i) (v 7 i) (stk.headD 0) := by
                rw [o1, o2, o3, o4]
                by_cases hne : stk.length = 0
                · have n9 : ¬ v 14 t z = 9 := fun q9 => by
                    have := qm_rf_d1 r0 i1 (Or.inr q9)
                    omega
                  unfold qm_fe
                  simp only [if_neg n9]
                · rw [htop hne]
              refine lv_iinc (v := nI (z + 1)) hx hb d_SM_resultOf_145 hl (k := 3) rfl (nI_1 z) (by decide) rfl (fun ls hl => ?_)
              have hl : lv_has ls 11 [(5, .int (nI (z + 1))), (8, .int rv), (7, .int (u 15 t z)), (6, .int (u 14 t z)), (4, .int (nI 0)), (0, .ref (qa_a y 16 0)), (1, .ref (qa_a y 13 t)), (2, .ref (qa_a y 5 i)), (3, .ref (qa_a y 7 i))] := hl
              refine lv_goto hx hb d_SM_resultOf_148 rfl ?_
              exact ih (z + 1) u1 H locs 0 (qm_fe (u 14 t z) (u 15 t z) (u 5 i) (u 7 i) (u 17 0 (stk.length - 1)) :: stk) ls (by omega) hC ⟨by simp; omega, by rw [g3, qa_up_s]; rfl, ⟨by rw [g3, qa_up_kk (by decide), qa_up_s], qm_st_n i3 (fun q hq => by rw [g3, qa_up_kk (by decide), qa_up_f (by omega)])⟩, fun k h1 h2 => by rw [g3, qa_up_kk h1, qa_up_kk h2]; exact i4 k h1 h2, by omega, by rw [← i6, qm_ex_0 hz, if_neg (by rw [r0]; exact fun q9 => q9 rfl), if_neg (by rw [← o1]; exact h69), if_neg (fun q9 => q9.1 (by rw [← o1]; exact h93)), f9]⟩ (lv_sub hl [0, 4, 5, 6, 7, 8] rfl)
            · refine lv_iload hx hb d_SM_resultOf_96 (lv_at hl 2 rfl) ?_
              refine lv_bipush (v := 7) hx hb d_SM_resultOf_98 (by decide) ?_
              refine lv_icmp_gt hx hb d_SM_resultOf_100 rfl (fun h100 => ?_) (fun h100 => ?_)
              · have o9 : u 14 t z ≤ 2 ∨ u 14 t z = 9 := qm_op29 hok.1 h69 (Or.inr h100)
                have d6 := qm_rf_d6 (by rw [← o1] at r0; exact r0) i1 o9
                refine lv_aload_n hx hb d_SM_resultOf_131 rfl (lv_at hl 5 rfl) ?_
                refine lv_aload_n hx hb d_SM_resultOf_132 rfl (lv_at hl 5 rfl) ?_
                refine lv_iload hx hb d_SM_resultOf_133 (lv_at hl 2 rfl) ?_
                refine lv_iload hx hb d_SM_resultOf_135 (lv_at hl 1 rfl) ?_
                refine lv_aload_n hx hb d_SM_resultOf_137 rfl (lv_at hl 7 rfl) ?_
                refine lv_aload_n hx hb d_SM_resultOf_138 rfl (lv_at hl 8 rfl) ?_
                refine qa_pV (k := 16) (i := 0) (As := [.int (u 14 t z), .int (u 15 t z), .ref (qa_a y 5 i), .ref (qa_a y 7 i)]) E hC (c_SM_fetch_5_7 l y u i (u 14 t z) (u 15 t z) stk.length hi hok i2 i1 (fun q9 => qm_rf_d1 (by rw [← o1] at r0; exact r0) i1 (Or.inr q9))) Nat.one_pos rfl rfl k_SM_46 (qa_fitR (by decide) (by decide)) rfl hl.1 rfl (Nat.le_of_ble_eq_true rfl) d_SM_resultOf_139 ?_
                refine qa_mVv (k := 16) (i := 0) (As := [.int (qm_fe (u 14 t z) (u 15 t z) (u 5 i) (u 7 i) (u 17 0 (stk.length - 1)))]) E hC (c_SM_push l y u stk.length (qm_fe (u 14 t z) (u 15 t z) (u 5 i) (u 7 i) (u 17 0 (stk.length - 1))) i2 d6) Nat.one_pos rfl rfl k_SM_42 (qa_fitR (by decide) (by decide)) rfl hl.1 rfl (Nat.le_of_ble_eq_true rfl) d_SM_resultOf_142 (fun u2 H locs hp2 hC => ?_)
                have g3 := hp2
                have f9 : qm_fe (u 14 t z) (u 15 t z) (u 5 i) (u 7 i) (u 17 0 (stk.length - 1)) = qm_fe (v 14 t z) (v 15 t z) (v 5 i) (v 7 i) (stk.headD 0) := by
                  rw [o1, o2, o3, o4]
                  by_cases hne : stk.length = 0
                  · have n9 : ¬ v 14 t z = 9 := fun q9 => by
                      have := qm_rf_d1 r0 i1 (Or.inr q9)
                      omega
                    unfold qm_fe
                    simp only [if_neg n9]
                  · rw [htop hne]
                refine lv_iinc (v := nI (z + 1)) hx hb d_SM_resultOf_145 hl (k := 3) rfl (nI_1 z) (by decide) rfl (fun ls hl => ?_)
                have hl : lv_has ls 11 [(5, .int (nI (z + 1))), (8, .int rv), (7, .int (u 15 t z)), (6, .int (u 14 t z)), (4, .int (nI 0)), (0, .ref (qa_a y 16 0)), (1, .ref (qa_a y 13 t)), (2, .ref (qa_a y 5 i)), (3, .ref (qa_a y 7 i))] := hl
                refine lv_goto hx hb d_SM_resultOf_148 rfl ?_
                exact ih (z + 1) u2 H locs 0 (qm_fe (u 14 t z) (u 15 t z) (u 5 i) (u 7 i) (u 17 0 (stk.length - 1)) :: stk) ls (by omega) hC ⟨by simp; omega, by rw [g3, qa_up_s]; rfl, ⟨by rw [g3, qa_up_kk (by decide), qa_up_s], qm_st_n i3 (fun q hq => by rw [g3, qa_up_kk (by decide), qa_up_f (by omega)])⟩, fun k h1 h2 => by rw [g3, qa_up_kk h1, qa_up_kk h2]; exact i4 k h1 h2, by omega, by rw [← i6, qm_ex_0 hz, if_neg (by rw [r0]; exact fun q9 => q9 rfl), if_neg (by rw [← o1]; exact h69), if_neg (fun q9 => q9.2 (by rw [← o1]; exact h100)), f9]⟩ (lv_sub hl [0, 4, 5, 6, 7, 8] rfl)
              · have d2 := qm_rf_d2 r0 i1 (by rw [← o1]; exact h93) (by rw [← o1]; exact h100)
                obtain ⟨b, a, r, rfl⟩ : ∃ b a r, stk = b :: a :: r := by
                  cases stk with
                  | nil => simp at d2
                  | cons b r =>
                    cases r with
                    | nil => simp at d2
                    | cons a r => exact ⟨b, a, r, rfl⟩
                simp only [List.length_cons] at i1 i2
                refine lv_aload_n hx hb d_SM_resultOf_103 rfl (lv_at hl 5 rfl) ?_
                refine qa_mV (k := 16) (i := 0) (As := []) E hC (c_SM_pop l y u (r.length + 1) i2 (by omega)) Nat.one_pos rfl rfl k_SM_34 (qa_fitR (by decide) (by decide)) rfl hl.1 rfl (Nat.le_of_ble_eq_true rfl) d_SM_resultOf_104 (fun r3 u3 H locs hp3 hC => ?_)
                have e4 : r3 = b := hp3.1.trans i3.1
                have e3 := hp3.2
                refine lv_istore hx hb d_SM_resultOf_107 hl (by decide) rfl (fun ls hl => ?_)
                have hl : lv_has ls 11 [(9, .int r3), (8, .int rv), (7, .int (u 15 t z)), (6, .int (u 14 t z)), (5, .int (nI z)), (4, .int (nI 0)), (0, .ref (qa_a y 16 0)), (1, .ref (qa_a y 13 t)), (2, .ref (qa_a y 5 i)), (3, .ref (qa_a y 7 i))] := hl
                refine lv_aload_n hx hb d_SM_resultOf_109 rfl (lv_at hl 6 rfl) ?_
                have j2 : u3 16 0 1 = nI (r.length + 1) := by rw [e3, qa_up_s]
                refine qa_mV (k := 16) (i := 0) (As := []) E hC (c_SM_pop l y u3 r.length j2 (by omega)) Nat.one_pos rfl rfl k_SM_34 (qa_fitR (by decide) (by decide)) rfl hl.1 rfl (Nat.le_of_ble_eq_true rfl) d_SM_resultOf_110 (fun r4 u4 H locs hp4 hC => ?_)
                have f4 : r4 = a := by rw [hp4.1, e3, qa_up_k (by decide)]; exact i3.2.1
                have f3 := hp4.2
                have j3 : u4 16 0 1 = nI r.length := by rw [f3, qa_up_s]
                refine lv_istore hx hb d_SM_resultOf_113 hl (by decide) rfl (fun ls hl => ?_)
                have hl : lv_has ls 11 [(10, .int r4), (9, .int r3), (8, .int rv), (7, .int (u 15 t z)), (6, .int (u 14 t z)), (5, .int (nI z)), (4, .int (nI 0)), (0, .ref (qa_a y 16 0)), (1, .ref (qa_a y 13 t)), (2, .ref (qa_a y 5 i)), (3, .ref (qa_a y 7 i))] := hl
                refine lv_aload_n hx hb d_SM_resultOf_115 rfl (lv_at hl 7 rfl) ?_
                refine lv_iload hx hb d_SM_resultOf_116 (lv_at hl 4 rfl) ?_
                refine lv_iload hx hb d_SM_resultOf_118 (lv_at hl 0 rfl) ?_
                refine lv_iload hx hb d_SM_resultOf_120 (lv_at hl 1 rfl) ?_
                refine qa_pT (As := [.int (u 14 t z), .int r4, .int r3]) F (c_SM_combine l (u 14 t z) r4 r3) k_SM_38 (qa_fitR (by decide) (by decide)) rfl hl.1 rfl (Nat.le_of_ble_eq_true rfl) d_SM_resultOf_122 ?_
                refine qa_mVv (k := 16) (i := 0) (As := [.int (qm_two (u 14 t z) r4 r3)]) E hC (c_SM_push l y u4 r.length (qm_two (u 14 t z) r4 r3) j3 (by omega)) Nat.one_pos rfl rfl k_SM_42 (qa_fitR (by decide) (by decide)) rfl hl.1 rfl (Nat.le_of_ble_eq_true rfl) d_SM_resultOf_125 (fun u5 H locs hp5 hC => ?_)
                have g3 := hp5
                refine lv_goto hx hb d_SM_resultOf_128 rfl ?_
                refine lv_iinc (v := nI (z + 1)) hx hb d_SM_resultOf_145 hl (k := 5) rfl (nI_1 z) (by decide) rfl (fun ls hl => ?_)
                have hl : lv_has ls 11 [(5, .int (nI (z + 1))), (10, .int r4), (9, .int r3), (8, .int rv), (7, .int (u 15 t z)), (6, .int (u 14 t z)), (4, .int (nI 0)), (0, .ref (qa_a y 16 0)), (1, .ref (qa_a y 13 t)), (2, .ref (qa_a y 5 i)), (3, .ref (qa_a y 7 i))] := hl
                refine lv_goto hx hb d_SM_resultOf_148 rfl ?_
                exact ih (z + 1) u5 H locs 0 (qm_two (u 14 t z) r4 r3 :: r) ls (by omega) hC ⟨by simp; omega, by rw [g3, qa_up_s]; rfl, ⟨by rw [g3, qa_up_kk (by decide), qa_up_s], qm_st_n i3.2.2 (fun q hq => by rw [g3, qa_up_kk (by decide), qa_up_f (by omega), f3, qa_up_kk (by decide), e3, qa_up_kk (by decide)])⟩, fun k h1 h2 => by rw [g3, qa_up_kk h1, qa_up_kk h2, f3, qa_up_kk h1, e3, qa_up_kk h1]; exact i4 k h1 h2, by omega, by rw [← i6, qm_ex_0 hz, if_neg (by rw [r0]; exact fun q9 => q9 rfl), if_neg (by rw [← o1]; exact h69), if_pos ⟨by rw [← o1]; exact h93, by rw [← o1]; exact h100⟩, e4, f4, o1]; rfl⟩ (lv_sub hl [0, 6, 7, 8, 9, 10] rfl)
          · have o8 : v 14 t z = 8 := by rw [← o1]; exact h69
            have d1 := qm_rf_d1 r0 i1 (Or.inl o8)
            obtain ⟨b, r, rfl⟩ : ∃ b r, stk = b :: r := by
              cases stk with
              | nil => simp at d1
              | cons b r => exact ⟨b, r, rfl⟩
            simp only [List.length_cons] at i1 i2
            refine lv_aload_n hx hb d_SM_resultOf_72 rfl (lv_at hl 5 rfl) ?_
            refine qa_mV (k := 16) (i := 0) (As := []) E hC (c_SM_pop l y u r.length i2 (by omega)) Nat.one_pos rfl rfl k_SM_34 (qa_fitR (by decide) (by decide)) rfl hl.1 rfl (Nat.le_of_ble_eq_true rfl) d_SM_resultOf_73 (fun r6 u6 H locs hp6 hC => ?_)
            have e4 : r6 = b := hp6.1.trans i3.1
            have e3 := hp6.2
            refine lv_if_ne hx hb d_SM_resultOf_76 rfl (fun h76 => ?_) (fun h76 => ?_)
            · refine lv_iconst (v := 0) hx hb d_SM_resultOf_84 (by decide) ?_
              rw [show (0 : Int32) = nI 0 from rfl]
              refine lv_istore hx hb d_SM_resultOf_85 hl (by decide) rfl (fun ls hl => ?_)
              have hl : lv_has ls 11 [(4, .int (nI 0)), (8, .int rv), (7, .int (u 15 t z)), (6, .int (u 14 t z)), (5, .int (nI z)), (0, .ref (qa_a y 16 0)), (1, .ref (qa_a y 13 t)), (2, .ref (qa_a y 5 i)), (3, .ref (qa_a y 7 i))] := hl
              refine lv_goto hx hb d_SM_resultOf_87 rfl ?_
              refine lv_iinc (v := nI (z + 1)) hx hb d_SM_resultOf_145 hl (k := 4) rfl (nI_1 z) (by decide) rfl (fun ls hl => ?_)
              have hl : lv_has ls 11 [(5, .int (nI (z + 1))), (4, .int (nI 0)), (8, .int rv), (7, .int (u 15 t z)), (6, .int (u 14 t z)), (0, .ref (qa_a y 16 0)), (1, .ref (qa_a y 13 t)), (2, .ref (qa_a y 5 i)), (3, .ref (qa_a y 7 i))] := hl
              refine lv_goto hx hb d_SM_resultOf_148 rfl ?_
              exact ih (z + 1) u6 H locs 0 r ls (by omega) hC ⟨by omega, by rw [e3, qa_up_s], by rw [e3, qa_up_kk (by decide)]; exact i3.2, fun k h1 h2 => by rw [e3, qa_up_kk h1]; exact i4 k h1 h2, by omega, by rw [← i6, qm_ex_0 hz, if_neg (by rw [r0]; exact fun q9 => q9 rfl), if_pos o8]; rw [if_neg (show ¬ (b :: r).headD 0 = 0 from fun q9 => h76 (e4.trans q9))]; rfl⟩ (lv_sub hl [0, 1, 5, 6, 7, 8] rfl)
            · refine lv_iload hx hb d_SM_resultOf_79 (lv_at hl 1 rfl) ?_
              refine lv_goto hx hb d_SM_resultOf_81 rfl ?_
              obtain ⟨j, hj, e5⟩ := hok.2.2.2 h69
              rw [e5]
              refine lv_istore hx hb d_SM_resultOf_85 hl (by decide) rfl (fun ls hl => ?_)
              have hl : lv_has ls 11 [(4, .int (nI j)), (8, .int rv), (7, .int (u 15 t z)), (6, .int (u 14 t z)), (5, .int (nI z)), (0, .ref (qa_a y 16 0)), (1, .ref (qa_a y 13 t)), (2, .ref (qa_a y 5 i)), (3, .ref (qa_a y 7 i))] := hl
              refine lv_goto hx hb d_SM_resultOf_87 rfl ?_
              refine lv_iinc (v := nI (z + 1)) hx hb d_SM_resultOf_145 hl (k := 4) rfl (nI_1 z) (by decide) rfl (fun ls hl => ?_)
              have hl : lv_has ls 11 [(5, .int (nI (z + 1))), (4, .int (nI j)), (8, .int rv), (7, .int (u 15 t z)), (6, .int (u 14 t z)), (0, .ref (qa_a y 16 0)), (1, .ref (qa_a y 13 t)), (2, .ref (qa_a y 5 i)), (3, .ref (qa_a y 7 i))] := hl
              refine lv_goto hx hb d_SM_resultOf_148 rfl ?_
              exact ih (z + 1) u6 H locs j r ls (by omega) hC ⟨by omega, by rw [e3, qa_up_s], by rw [e3, qa_up_kk (by decide)]; exact i3.2, fun k h1 h2 => by rw [e3, qa_up_kk h1]; exact i4 k h1 h2, hj, by rw [← i6, qm_ex_0 hz, if_neg (by rw [r0]; exact fun q9 => q9 rfl), if_pos o8]; rw [if_pos (by rw [← h76]; exact e4.symm), ← o2, e5, qm_ix_n (by omega)]; rfl⟩ (lv_sub hl [0, 1, 5, 6, 7, 8] rfl)
        · refine lv_iload hx hb d_SM_resultOf_62 (lv_at hl 0 rfl) ?_
          exact qa_mret E hC hr hlocks ⟨by rw [← i6, qm_ex_0 hz, if_pos (by rw [← r9]; exact h59)]; exact r9, i4⟩ d_SM_resultOf_64
      · obtain ⟨q, rfl⟩ : ∃ q, kk = q + 1 := ⟨kk - 1, by rcases kk with _ | q; exact absurd (by decide) h22; omega⟩
        have hl : lv_has ls 11 [(5, .int (nI z)), (4, .int (nI (q + 1))), (0, .ref (qa_a y 16 0)), (1, .ref (qa_a y 13 t)), (2, .ref (qa_a y 5 i)), (3, .ref (qa_a y 7 i))] := hl
        refine lv_iinc (v := nI q) hx hb d_SM_resultOf_25 hl (k := 1) rfl (pk_m1 q) (by decide) rfl (fun ls hl => ?_)
        have hl : lv_has ls 11 [(4, .int (nI q)), (5, .int (nI z)), (0, .ref (qa_a y 16 0)), (1, .ref (qa_a y 13 t)), (2, .ref (qa_a y 5 i)), (3, .ref (qa_a y 7 i))] := hl
        refine lv_goto hx hb d_SM_resultOf_28 rfl ?_
        refine lv_iinc (v := nI (z + 1)) hx hb d_SM_resultOf_145 hl (k := 1) rfl (nI_1 z) (by decide) rfl (fun ls hl => ?_)
        have hl : lv_has ls 11 [(5, .int (nI (z + 1))), (4, .int (nI q)), (0, .ref (qa_a y 16 0)), (1, .ref (qa_a y 13 t)), (2, .ref (qa_a y 5 i)), (3, .ref (qa_a y 7 i))] := hl
        refine lv_goto hx hb d_SM_resultOf_148 rfl ?_
        exact ih (z + 1) u H locs q stk ls (by omega) hC ⟨i1, i2, i3, i4, by omega, by rw [← i6]; exact (qm_ex_s hz).symm⟩ (lv_sub hl [0, 1, 2, 3, 4, 5] rfl)
  refine lv_aload_n hx hb d_SM_resultOf_0 rfl (lv_at hl 0 rfl) ?_
  refine lv_iconst (v := 0) hx hb d_SM_resultOf_1 (by decide) ?_
  refine qa_put (k := 16) (i := 0) (f := 1) E hC Nat.one_pos rfl rfl (by decide) f_SM_15 rfl rfl rfl rfl d_SM_resultOf_2 (fun H locs hC => ?_)
  refine lv_iconst (v := 0) hx hb d_SM_resultOf_5 (by decide) ?_
  refine lv_istore hx hb d_SM_resultOf_6 hl (by decide) rfl (fun ls hl => ?_)
  have hl : lv_has ls 11 [(4, .int 0), (0, .ref (qa_a y 16 0)), (1, .ref (qa_a y 13 t)), (2, .ref (qa_a y 5 i)), (3, .ref (qa_a y 7 i))] := hl
  refine lv_iconst (v := 0) hx hb d_SM_resultOf_8 (by decide) ?_
  refine lv_istore hx hb d_SM_resultOf_9 hl (by decide) rfl (fun ls hl => ?_)
  have hl : lv_has ls 11 [(5, .int 0), (4, .int 0), (0, .ref (qa_a y 16 0)), (1, .ref (qa_a y 13 t)), (2, .ref (qa_a y 5 i)), (3, .ref (qa_a y 7 i))] := hl
  exact loop L 0 (qa_up v 16 0 1 0) H locs 0 [] ls (by omega) hC ⟨by simp, qa_up_s, trivial, fun k h1 h2 => qa_up_kk h1, by omega, by rw [Nat.sub_zero]⟩ (lv_sub hl [0, 1, 2, 3, 4, 5] rfl)

set_option maxHeartbeats 4000000 in
set_option maxRecDepth 100000 in
theorem c_SM_resultOf_5_18 (l : Launch) (y : qa_L) (v : qa_M) (t L : Nat) (i : Nat) (ht : t < 4) (hL : v 13 t 2 = nI L) (hL12 : L ≤ 12) (hP : ∀ z, z < L → qm_iok (qa_n y) (v 14 t z) (v 15 t z)) (hi : i < qa_n y) : qa_Mi l y_SM_resultOf b_SM_resultOf 11 (some .int) 2 [.ref (qa_a y 16 0), .ref (qa_a y 13 t), .ref (qa_a y 5 i), .ref (qa_a y 18 0)] y v (fun r u => r = qm_ex (v 14 t) (v 15 t) (v 5 i) (v 18 0) L 0 0 [] ∧ ∀ k, k ≠ 16 → k ≠ 17 → u k = v k) := by
  refine qa_ofMi (plainFor_of_name (by decide)) (Nat.le_of_ble_eq_true rfl) ?_
  intro p e s m below meth c ls E hr hlocks hC hl
  have E : qa_E p m c b_SM_resultOf 11 s _ "VotedFrames$StackMachine" y := E
  have F := E.1
  have hx := F.1
  have hb := F.2.1
  have hown : s.vm.findClass "VotedFrames$StackMachine" = some m.cls := F.2.2.2.1
  have hts := F.2.2.2.2
  have hn4 : 4 ≤ qa_n y := E.2.1.2.2.1
  have hn7 : qa_n y ≤ 7 := E.2.1.2.2.2.1
  have hl : lv_has ls 11 [(0, .ref (qa_a y 16 0)), (1, .ref (qa_a y 13 t)), (2, .ref (qa_a y 5 i)), (3, .ref (qa_a y 18 0))] := hl
  have loop : ∀ (d z : Nat) (u : qa_M) (H : Heap) (locs : List Loc) (kk : Nat) (stk : List Int32) (ls : Array Slot), z + d = L → qa_C y u s H locs → (stk.length ≤ 6 ∧ u 16 0 1 = nI stk.length ∧ qm_st (u 17 0) stk ∧ (∀ k, k ≠ 16 → k ≠ 17 → u k = v k) ∧ kk ≤ 11 ∧ qm_ex (v 14 t) (v 15 t) (v 5 i) (v 18 0) (L - z) z kk stk = qm_ex (v 14 t) (v 15 t) (v 5 i) (v 18 0) L 0 0 []) → lv_has ls 11 [(5, .int (nI z)), (4, .int (nI kk)), (0, .ref (qa_a y 16 0)), (1, .ref (qa_a y 13 t)), (2, .ref (qa_a y 5 i)), (3, .ref (qa_a y 18 0))] → W p l e (qa_R 2) s m [.ref (qa_a y 16 0), .ref (qa_a y 13 t), .ref (qa_a y 5 i), .ref (qa_a y 18 0)].toArray below meth c H locs 0 0 (MQ below (va_Qi (fun r u => r = qm_ex (v 14 t) (v 15 t) (v 5 i) (v 18 0) L 0 0 [] ∧ ∀ k, k ≠ 16 → k ≠ 17 → u k = v k) (fun u t => qa_W y u t) (qa_A y)) [.ref (qa_a y 16 0), .ref (qa_a y 13 t), .ref (qa_a y 5 i), .ref (qa_a y 18 0)].toArray s 0 0 (qa_A y)) (F0 m 11 ls []) := by
    intro d
    induction d with
    | zero =>
      intro z u H locs kk stk ls hkd hC hI hl
      obtain rfl : L = z := by omega
      obtain ⟨i1, i2, i3, i4, i5, i6⟩ := hI
      have hq : u 13 t 2 = nI L := by rw [i4 13 (by decide) (by decide)]; exact hL
      cases stk with
      | nil =>
        have e8 : (-1000000001 : Int32) = qm_ex (v 14 t) (v 15 t) (v 5 i) (v 18 0) 0 L kk [] := by unfold qm_ex; rfl
        refine lv_iload hx hb d_SM_resultOf_11 (lv_at hl 0 rfl) ?_
        refine lv_aload_n hx hb d_SM_resultOf_13 rfl (lv_at hl 3 rfl) ?_
        refine qa_get (k := 13) (i := t) (f := 2) (val := .int (u 13 t 2)) E hC ht rfl rfl (by decide) f_SM_19 rfl rfl d_SM_resultOf_14 ?_
        refine lv_icmp_ge hx hb d_SM_resultOf_17 rfl (fun _ => ?_) (fun h9 => absurd (by rw [hq]; exact nI_le (Nat.le_refl _) (by omega)) h9)
        refine lv_aload_n hx hb d_SM_resultOf_151 rfl (lv_at hl 2 rfl) ?_
        refine qa_get (k := 16) (i := 0) (f := 1) (val := .int (u 16 0 1)) E hC Nat.one_pos rfl rfl (by decide) f_SM_15 rfl rfl d_SM_resultOf_152 ?_
        refine lv_if_ne hx hb d_SM_resultOf_155 rfl (fun h9 => absurd i2 h9) (fun _ => ?_)
        refine lv_ldc (v := -1000000001) hx hb hown (hts _ k_SM_50) d_SM_resultOf_158 ?_
        refine lv_goto hx hb d_SM_resultOf_160 rfl ?_
        exact qa_mret E hC hr hlocks ⟨by rw [← i6, Nat.sub_self]; exact e8, i4⟩ d_SM_resultOf_174
      | cons b r =>
        have e7 : u 16 0 1 - 1 = nI r.length := by rw [i2, List.length_cons, nI_pred]
        have e8 : u 17 0 r.length = qm_ex (v 14 t) (v 15 t) (v 5 i) (v 18 0) 0 L kk (b :: r) := by unfold qm_ex; exact i3.1
        have e6 : r.length < 6 := by simp at i1; omega
        refine lv_iload hx hb d_SM_resultOf_11 (lv_at hl 0 rfl) ?_
        refine lv_aload_n hx hb d_SM_resultOf_13 rfl (lv_at hl 3 rfl) ?_
        refine qa_get (k := 13) (i := t) (f := 2) (val := .int (u 13 t 2)) E hC ht rfl rfl (by decide) f_SM_19 rfl rfl d_SM_resultOf_14 ?_
        refine lv_icmp_ge hx hb d_SM_resultOf_17 rfl (fun _ => ?_) (fun h9 => absurd (by rw [hq]; exact nI_le (Nat.le_refl _) (by omega)) h9)
        refine lv_aload_n hx hb d_SM_resultOf_151 rfl (lv_at hl 2 rfl) ?_
        refine qa_get (k := 16) (i := 0) (f := 1) (val := .int (u 16 0 1)) E hC Nat.one_pos rfl rfl (by decide) f_SM_15 rfl rfl d_SM_resultOf_152 ?_
        refine lv_if_ne hx hb d_SM_resultOf_155 rfl (fun _ => ?_) (fun h9 => absurd h9 (by rw [i2]; exact nI_ne0 (by simp) (by omega)))
        refine lv_aload_n hx hb d_SM_resultOf_163 rfl (lv_at hl 2 rfl) ?_
        refine qa_get (k := 16) (i := 0) (f := 0) (val := .ref (qa_a y 17 0)) E hC Nat.one_pos rfl rfl (by decide) f_SM_11 rfl rfl d_SM_resultOf_164 ?_
        refine lv_aload_n hx hb d_SM_resultOf_167 rfl (lv_at hl 2 rfl) ?_
        refine qa_get (k := 16) (i := 0) (f := 1) (val := .int (u 16 0 1)) E hC Nat.one_pos rfl rfl (by decide) f_SM_15 rfl rfl d_SM_resultOf_168 ?_
        refine lv_iconst (v := 1) hx hb d_SM_resultOf_171 (by decide) ?_
        refine lv_isub hx hb d_SM_resultOf_172 ?_
        refine qa_ild (k := 17) (i := 0) (j := r.length) E hC Nat.one_pos rfl rfl e7 e6 d_SM_resultOf_173 ?_
        exact qa_mret E hC hr hlocks ⟨by rw [← i6, Nat.sub_self]; exact e8, i4⟩ d_SM_resultOf_174
    | succ d ih =>
      intro z u H locs kk stk ls hkd hC hI hl
      have hz : z < L := by omega
      obtain ⟨i1, i2, i3, i4, i5, i6⟩ := hI
      have hq : u 13 t 2 = nI L := by rw [i4 13 (by decide) (by decide)]; exact hL
      have hz12 : z < 12 := by omega
      refine lv_iload hx hb d_SM_resultOf_11 (lv_at hl 0 rfl) ?_
      refine lv_aload_n hx hb d_SM_resultOf_13 rfl (lv_at hl 3 rfl) ?_
      refine qa_get (k := 13) (i := t) (f := 2) (val := .int (u 13 t 2)) E hC ht rfl rfl (by decide) f_SM_19 rfl rfl d_SM_resultOf_14 ?_
      refine lv_icmp_ge hx hb d_SM_resultOf_17 rfl (fun h9 => absurd h9 (by rw [hq]; exact nI_ge hz (by omega))) (fun _ => ?_)
      refine lv_iload hx hb d_SM_resultOf_20 (lv_at hl 1 rfl) ?_
      refine lv_if_le hx hb d_SM_resultOf_22 rfl (fun h22 => ?_) (fun h22 => ?_)
      · obtain rfl : kk = 0 := by
          rcases kk with _ | q
          · rfl
          · exact absurd h22 (nI_nle (by omega) (by omega))
        have hl : lv_has ls 11 [(5, .int (nI z)), (4, .int (nI 0)), (0, .ref (qa_a y 16 0)), (1, .ref (qa_a y 13 t)), (2, .ref (qa_a y 5 i)), (3, .ref (qa_a y 18 0))] := hl
        have o1 : u 14 t = v 14 t := by rw [i4 14 (by decide) (by decide)]
        have o2 : u 15 t = v 15 t := by rw [i4 15 (by decide) (by decide)]
        have hok : qm_iok (qa_n y) (u 14 t z) (u 15 t z) := by rw [o1, o2]; exact hP z hz
        have o3 : u 5 = v 5 := i4 5 (by decide) (by decide)
        have o4 : u 18 = v 18 := i4 18 (by decide) (by decide)
        have htop : stk.length ≠ 0 → u 17 0 (stk.length - 1) = stk.headD 0 := by
          intro hne
          cases stk with
          | nil => exact absurd rfl hne
          | cons b r => exact i3.1
        refine lv_aload_n hx hb d_SM_resultOf_31 rfl (lv_at hl 3 rfl) ?_
        refine qa_get (k := 13) (i := t) (f := 0) (val := .ref (qa_a y 14 t)) E hC ht rfl rfl (by decide) f_SM_24 rfl rfl d_SM_resultOf_32 ?_
        refine lv_iload hx hb d_SM_resultOf_35 (lv_at hl 0 rfl) ?_
        refine qa_ild (k := 14) (i := t) (j := z) E hC ht rfl rfl rfl hz12 d_SM_resultOf_37 ?_
        refine lv_istore hx hb d_SM_resultOf_38 hl (by decide) rfl (fun ls hl => ?_)
        have hl : lv_has ls 11 [(6, .int (u 14 t z)), (5, .int (nI z)), (4, .int (nI 0)), (0, .ref (qa_a y 16 0)), (1, .ref (qa_a y 13 t)), (2, .ref (qa_a y 5 i)), (3, .ref (qa_a y 18 0))] := hl
        refine lv_aload_n hx hb d_SM_resultOf_40 rfl (lv_at hl 4 rfl) ?_
        refine qa_get (k := 13) (i := t) (f := 1) (val := .ref (qa_a y 15 t)) E hC ht rfl rfl (by decide) f_SM_27 rfl rfl d_SM_resultOf_41 ?_
        refine lv_iload hx hb d_SM_resultOf_44 (lv_at hl 1 rfl) ?_
        refine qa_ild (k := 15) (i := t) (j := z) E hC ht rfl rfl rfl hz12 d_SM_resultOf_46 ?_
        refine lv_istore hx hb d_SM_resultOf_47 hl (by decide) rfl (fun ls hl => ?_)
        have hl : lv_has ls 11 [(7, .int (u 15 t z)), (6, .int (u 14 t z)), (5, .int (nI z)), (4, .int (nI 0)), (0, .ref (qa_a y 16 0)), (1, .ref (qa_a y 13 t)), (2, .ref (qa_a y 5 i)), (3, .ref (qa_a y 18 0))] := hl
        refine lv_aload_n hx hb d_SM_resultOf_49 rfl (lv_at hl 4 rfl) ?_
        refine lv_iload hx hb d_SM_resultOf_50 (lv_at hl 1 rfl) ?_
        refine qa_pV (k := 16) (i := 0) (As := [.int (u 14 t z)]) E hC (c_SM_refusalOf l y u (u 14 t z) stk.length i2 i1) Nat.one_pos rfl rfl k_SM_30 (qa_fitR (by decide) (by decide)) rfl hl.1 rfl (Nat.le_of_ble_eq_true rfl) d_SM_resultOf_52 ?_
        refine lv_topi (fun rv rv9 => ?_)
        have r9 : rv = qm_rf (v 14 t z) stk.length (stk.headD 0) := by
          rw [rv9, o1]
          by_cases hne : stk.length = 0
          · cases stk with
            | nil => exact qm_rf_0 _ _ _
            | cons b r => simp at hne
          · rw [htop hne]
        refine lv_istore hx hb d_SM_resultOf_55 hl (by decide) rfl (fun ls hl => ?_)
        have hl : lv_has ls 11 [(8, .int rv), (7, .int (u 15 t z)), (6, .int (u 14 t z)), (5, .int (nI z)), (4, .int (nI 0)), (0, .ref (qa_a y 16 0)), (1, .ref (qa_a y 13 t)), (2, .ref (qa_a y 5 i)), (3, .ref (qa_a y 18 0))] := hl
        refine lv_iload hx hb d_SM_resultOf_57 (lv_at hl 0 rfl) ?_
        refine lv_if_eq hx hb d_SM_resultOf_59 rfl (fun h59 => ?_) (fun h59 => ?_)
        · have r0 : qm_rf (v 14 t z) stk.length (stk.headD 0) = 0 := by rw [← r9]; exact h59
          refine lv_iload hx hb d_SM_resultOf_65 (lv_at hl 2 rfl) ?_
          refine lv_bipush (v := 8) hx hb d_SM_resultOf_67 (by decide) ?_
          refine lv_icmp_ne hx hb d_SM_resultOf_69 rfl (fun h69 => ?_) (fun h69 => ?_)
          · refine lv_iload hx hb d_SM_resultOf_90 (lv_at hl 2 rfl) ?_
            refine lv_iconst (v := 3) hx hb d_SM_resultOf_92 (by decide) ?_
            refine lv_icmp_lt hx hb d_SM_resultOf_93 rfl (fun h93 => ?_) (fun h93 => ?_)
            · have o9 : u 14 t z ≤ 2 ∨ u 14 t z = 9 := qm_op29 hok.1 h69 (Or.inl h93)
              have d6 := qm_rf_d6 (by rw [← o1] at r0; exact r0) i1 o9
              refine lv_aload_n hx hb d_SM_resultOf_131 rfl (lv_at hl 5 rfl) ?_
              refine lv_aload_n hx hb d_SM_resultOf_132 rfl (lv_at hl 5 rfl) ?_
              refine lv_iload hx hb d_SM_resultOf_133 (lv_at hl 2 rfl) ?_
              refine lv_iload hx hb d_SM_resultOf_135 (lv_at hl 1 rfl) ?_
              refine lv_aload_n hx hb d_SM_resultOf_137 rfl (lv_at hl 7 rfl) ?_
              refine lv_aload_n hx hb d_SM_resultOf_138 rfl (lv_at hl 8 rfl) ?_
              refine qa_pV (k := 16) (i := 0) (As := [.int (u 14 t z), .int (u 15 t z), .ref (qa_a y 5 i), .ref (qa_a y 18 0)]) E hC (c_SM_fetch_5_18 l y u i (u 14 t z) (u 15 t z) stk.length hi hok i2 i1 (fun q9 => qm_rf_d1 (by rw [← o1] at r0; exact r0) i1 (Or.inr q9))) Nat.one_pos rfl rfl k_SM_46 (qa_fitR (by decide) (by decide)) rfl hl.1 rfl (Nat.le_of_ble_eq_true rfl) d_SM_resultOf_139 ?_
              refine qa_mVv (k := 16) (i := 0) (As := [.int (qm_fe (u 14 t z) (u 15 t z) (u 5 i) (u 18 0) (u 17 0 (stk.length - 1)))]) E hC (c_SM_push l y u stk.length (qm_fe (u 14 t z) (u 15 t z) (u 5 i) (u 18 0) (u 17 0 (stk.length - 1))) i2 d6) Nat.one_pos rfl rfl k_SM_42 (qa_fitR (by decide) (by decide)) rfl hl.1 rfl (Nat.le_of_ble_eq_true rfl) d_SM_resultOf_142 (fun u1 H locs hp1 hC => ?_)
              have g3 := hp1
              have f9 : qm_fe (u 14 t z) (u 15 t z) (u 5 i) (u 18 0) (u 17 0 (stk.length - 1)) = qm_fe (v 14 t z) (v 15 t z) (v 5 i) (v 18 0) (stk.headD 0) := by
                rw [o1, o2, o3, o4]
                by_cases hne : stk.length = 0
                · have n9 : ¬ v 14 t z = 9 := fun q9 => by
                    have := qm_rf_d1 r0 i1 (Or.inr q9)
                    omega
                  unfold qm_fe
                  simp only [if_neg n9]
                · rw [htop hne]
              refine lv_iinc (v := nI (z + 1)) hx hb d_SM_resultOf_145 hl (k := 3) rfl (nI_1 z) (by decide) rfl (fun ls hl => ?_)
              have hl : lv_has ls 11 [(5, .int (nI (z + 1))), (8, .int rv), (7, .int (u 15 t z)), (6, .int (u 14 t z)), (4, .int (nI 0)), (0, .ref (qa_a y 16 0)), (1, .ref (qa_a y 13 t)), (2, .ref (qa_a y 5 i)), (3, .ref (qa_a y 18 0))] := hl
              refine lv_goto hx hb d_SM_resultOf_148 rfl ?_
              exact ih (z + 1) u1 H locs 0 (qm_fe (u 14 t z) (u 15 t z) (u 5 i) (u 18 0) (u 17 0 (stk.length - 1)) :: stk) ls (by omega) hC ⟨by simp; omega, by rw [g3, qa_up_s]; rfl, ⟨by rw [g3, qa_up_kk (by decide), qa_up_s], qm_st_n i3 (fun q hq => by rw [g3, qa_up_kk (by decide), qa_up_f (by omega)])⟩, fun k h1 h2 => by rw [g3, qa_up_kk h1, qa_up_kk h2]; exact i4 k h1 h2, by omega, by rw [← i6, qm_ex_0 hz, if_neg (by rw [r0]; exact fun q9 => q9 rfl), if_neg (by rw [← o1]; exact h69), if_neg (fun q9 => q9.1 (by rw [← o1]; exact h93)), f9]⟩ (lv_sub hl [0, 4, 5, 6, 7, 8] rfl)
            · refine lv_iload hx hb d_SM_resultOf_96 (lv_at hl 2 rfl) ?_
              refine lv_bipush (v := 7) hx hb d_SM_resultOf_98 (by decide) ?_
              refine lv_icmp_gt hx hb d_SM_resultOf_100 rfl (fun h100 => ?_) (fun h100 => ?_)
              · have o9 : u 14 t z ≤ 2 ∨ u 14 t z = 9 := qm_op29 hok.1 h69 (Or.inr h100)
                have d6 := qm_rf_d6 (by rw [← o1] at r0; exact r0) i1 o9
                refine lv_aload_n hx hb d_SM_resultOf_131 rfl (lv_at hl 5 rfl) ?_
                refine lv_aload_n hx hb d_SM_resultOf_132 rfl (lv_at hl 5 rfl) ?_
                refine lv_iload hx hb d_SM_resultOf_133 (lv_at hl 2 rfl) ?_
                refine lv_iload hx hb d_SM_resultOf_135 (lv_at hl 1 rfl) ?_
                refine lv_aload_n hx hb d_SM_resultOf_137 rfl (lv_at hl 7 rfl) ?_
                refine lv_aload_n hx hb d_SM_resultOf_138 rfl (lv_at hl 8 rfl) ?_
                refine qa_pV (k := 16) (i := 0) (As := [.int (u 14 t z), .int (u 15 t z), .ref (qa_a y 5 i), .ref (qa_a y 18 0)]) E hC (c_SM_fetch_5_18 l y u i (u 14 t z) (u 15 t z) stk.length hi hok i2 i1 (fun q9 => qm_rf_d1 (by rw [← o1] at r0; exact r0) i1 (Or.inr q9))) Nat.one_pos rfl rfl k_SM_46 (qa_fitR (by decide) (by decide)) rfl hl.1 rfl (Nat.le_of_ble_eq_true rfl) d_SM_resultOf_139 ?_
                refine qa_mVv (k := 16) (i := 0) (As := [.int (qm_fe (u 14 t z) (u 15 t z) (u 5 i) (u 18 0) (u 17 0 (stk.length - 1)))]) E hC (c_SM_push l y u stk.length (qm_fe (u 14 t z) (u 15 t z) (u 5 i) (u 18 0) (u 17 0 (stk.length - 1))) i2 d6) Nat.one_pos rfl rfl k_SM_42 (qa_fitR (by decide) (by decide)) rfl hl.1 rfl (Nat.le_of_ble_eq_true rfl) d_SM_resultOf_142 (fun u2 H locs hp2 hC => ?_)
                have g3 := hp2
                have f9 : qm_fe (u 14 t z) (u 15 t z) (u 5 i) (u 18 0) (u 17 0 (stk.length - 1)) = qm_fe (v 14 t z) (v 15 t z) (v 5 i) (v 18 0) (stk.headD 0) := by
                  rw [o1, o2, o3, o4]
                  by_cases hne : stk.length = 0
                  · have n9 : ¬ v 14 t z = 9 := fun q9 => by
                      have := qm_rf_d1 r0 i1 (Or.inr q9)
                      omega
                    unfold qm_fe
                    simp only [if_neg n9]
                  · rw [htop hne]
                refine lv_iinc (v := nI (z + 1)) hx hb d_SM_resultOf_145 hl (k := 3) rfl (nI_1 z) (by decide) rfl (fun ls hl => ?_)
                have hl : lv_has ls 11 [(5, .int (nI (z + 1))), (8, .int rv), (7, .int (u 15 t z)), (6, .int (u 14 t z)), (4, .int (nI 0)), (0, .ref (qa_a y 16 0)), (1, .ref (qa_a y 13 t)), (2, .ref (qa_a y 5 i)), (3, .ref (qa_a y 18 0))] := hl
                refine lv_goto hx hb d_SM_resultOf_148 rfl ?_
                exact ih (z + 1) u2 H locs 0 (qm_fe (u 14 t z) (u 15 t z) (u 5 i) (u 18 0) (u 17 0 (stk.length - 1)) :: stk) ls (by omega) hC ⟨by simp; omega, by rw [g3, qa_up_s]; rfl, ⟨by rw [g3, qa_up_kk (by decide), qa_up_s], qm_st_n i3 (fun q hq => by rw [g3, qa_up_kk (by decide), qa_up_f (by omega)])⟩, fun k h1 h2 => by rw [g3, qa_up_kk h1, qa_up_kk h2]; exact i4 k h1 h2, by omega, by rw [← i6, qm_ex_0 hz, if_neg (by rw [r0]; exact fun q9 => q9 rfl), if_neg (by rw [← o1]; exact h69), if_neg (fun q9 => q9.2 (by rw [← o1]; exact h100)), f9]⟩ (lv_sub hl [0, 4, 5, 6, 7, 8] rfl)
              · have d2 := qm_rf_d2 r0 i1 (by rw [← o1]; exact h93) (by rw [← o1]; exact h100)
                obtain ⟨b, a, r, rfl⟩ : ∃ b a r, stk = b :: a :: r := by
                  cases stk with
                  | nil => simp at d2
                  | cons b r =>
                    cases r with
                    | nil => simp at d2
                    | cons a r => exact ⟨b, a, r, rfl⟩
                simp only [List.length_cons] at i1 i2
                refine lv_aload_n hx hb d_SM_resultOf_103 rfl (lv_at hl 5 rfl) ?_
                refine qa_mV (k := 16) (i := 0) (As := []) E hC (c_SM_pop l y u (r.length + 1) i2 (by omega)) Nat.one_pos rfl rfl k_SM_34 (qa_fitR (by decide) (by decide)) rfl hl.1 rfl (Nat.le_of_ble_eq_true rfl) d_SM_resultOf_104 (fun r3 u3 H locs hp3 hC => ?_)
                have e4 : r3 = b := hp3.1.trans i3.1
                have e3 := hp3.2
                refine lv_istore hx hb d_SM_resultOf_107 hl (by decide) rfl (fun ls hl => ?_)
                have hl : lv_has ls 11 [(9, .int r3), (8, .int rv), (7, .int (u 15 t z)), (6, .int (u 14 t z)), (5, .int (nI z)), (4, .int (nI 0)), (0, .ref (qa_a y 16 0)), (1, .ref (qa_a y 13 t)), (2, .ref (qa_a y 5 i)), (3, .ref (qa_a y 18 0))] := hl
                refine lv_aload_n hx hb d_SM_resultOf_109 rfl (lv_at hl 6 rfl) ?_
                have j2 : u3 16 0 1 = nI (r.length + 1) := by rw [e3, qa_up_s]
                refine qa_mV (k := 16) (i := 0) (As := []) E hC (c_SM_pop l y u3 r.length j2 (by omega)) Nat.one_pos rfl rfl k_SM_34 (qa_fitR (by decide) (by decide)) rfl hl.1 rfl (Nat.le_of_ble_eq_true rfl) d_SM_resultOf_110 (fun r4 u4 H locs hp4 hC => ?_)
                have f4 : r4 = a := by rw [hp4.1, e3, qa_up_k (by decide)]; exact i3.2.1
                have f3 := hp4.2
                have j3 : u4 16 0 1 = nI r.length := by rw [f3, qa_up_s]
                refine lv_istore hx hb d_SM_resultOf_113 hl (by decide) rfl (fun ls hl => ?_)
                have hl : lv_has ls 11 [(10, .int r4), (9, .int r3), (8, .int rv), (7, .int (u 15 t z)), (6, .int (u 14 t z)), (5, .int (nI z)), (4, .int (nI 0)), (0, .ref (qa_a y 16 0)), (1, .ref (qa_a y 13 t)), (2, .ref (qa_a y 5 i)), (3, .ref (qa_a y 18 0))] := hl
                refine lv_aload_n hx hb d_SM_resultOf_115 rfl (lv_at hl 7 rfl) ?_
                refine lv_iload hx hb d_SM_resultOf_116 (lv_at hl 4 rfl) ?_
                refine lv_iload hx hb d_SM_resultOf_118 (lv_at hl 0 rfl) ?_
                refine lv_iload hx hb d_SM_resultOf_120 (lv_at hl 1 rfl) ?_
                refine qa_pT (As := [.int (u 14 t z), .int r4, .int r3]) F (c_SM_combine l (u 14 t z) r4 r3) k_SM_38 (qa_fitR (by decide) (by decide)) rfl hl.1 rfl (Nat.le_of_ble_eq_true rfl) d_SM_resultOf_122 ?_
                refine qa_mVv (k := 16) (i := 0) (As := [.int (qm_two (u 14 t z) r4 r3)]) E hC (c_SM_push l y u4 r.length (qm_two (u 14 t z) r4 r3) j3 (by omega)) Nat.one_pos rfl rfl k_SM_42 (qa_fitR (by decide) (by decide)) rfl hl.1 rfl (Nat.le_of_ble_eq_true rfl) d_SM_resultOf_125 (fun u5 H locs hp5 hC => ?_)
                have g3 := hp5
                refine lv_goto hx hb d_SM_resultOf_128 rfl ?_
                refine lv_iinc (v := nI (z + 1)) hx hb d_SM_resultOf_145 hl (k := 5) rfl (nI_1 z) (by decide) rfl (fun ls hl => ?_)
                have hl : lv_has ls 11 [(5, .int (nI (z + 1))), (10, .int r4), (9, .int r3), (8, .int rv), (7, .int (u 15 t z)), (6, .int (u 14 t z)), (4, .int (nI 0)), (0, .ref (qa_a y 16 0)), (1, .ref (qa_a y 13 t)), (2, .ref (qa_a y 5 i)), (3, .ref (qa_a y 18 0))] := hl
                refine lv_goto hx hb d_SM_resultOf_148 rfl ?_
                exact ih (z + 1) u5 H locs 0 (qm_two (u 14 t z) r4 r3 :: r) ls (by omega) hC ⟨by simp; omega, by rw [g3, qa_up_s]; rfl, ⟨by rw [g3, qa_up_kk (by decide), qa_up_s], qm_st_n i3.2.2 (fun q hq => by rw [g3, qa_up_kk (by decide), qa_up_f (by omega), f3, qa_up_kk (by decide), e3, qa_up_kk (by decide)])⟩, fun k h1 h2 => by rw [g3, qa_up_kk h1, qa_up_kk h2, f3, qa_up_kk h1, e3, qa_up_kk h1]; exact i4 k h1 h2, by omega, by rw [← i6, qm_ex_0 hz, if_neg (by rw [r0]; exact fun q9 => q9 rfl), if_neg (by rw [← o1]; exact h69), if_pos ⟨by rw [← o1]; exact h93, by rw [← o1]; exact h100⟩, e4, f4, o1]; rfl⟩ (lv_sub hl [0, 6, 7, 8, 9, 10] rfl)
          · have o8 : v 14 t z = 8 := by rw [← o1]; exact h69
            have d1 := qm_rf_d1 r0 i1 (Or.inl o8)
            obtain ⟨b, r, rfl⟩ : ∃ b r, stk = b :: r := by
              cases stk with
              | nil => simp at d1
              | cons b r => exact ⟨b, r, rfl⟩
            simp only [List.length_cons] at i1 i2
            refine lv_aload_n hx hb d_SM_resultOf_72 rfl (lv_at hl 5 rfl) ?_
            refine qa_mV (k := 16) (i := 0) (As := []) E hC (c_SM_pop l y u r.length i2 (by omega)) Nat.one_pos rfl rfl k_SM_34 (qa_fitR (by decide) (by decide)) rfl hl.1 rfl (Nat.le_of_ble_eq_true rfl) d_SM_resultOf_73 (fun r6 u6 H locs hp6 hC => ?_)
            have e4 : r6 = b := hp6.1.trans i3.1
            have e3 := hp6.2
            refine lv_if_ne hx hb d_SM_resultOf_76 rfl (fun h76 => ?_) (fun h76 => ?_)
            · refine lv_iconst (v := 0) hx hb d_SM_resultOf_84 (by decide) ?_
              rw [show (0 : Int32) = nI 0 from rfl]
              refine lv_istore hx hb d_SM_resultOf_85 hl (by decide) rfl (fun ls hl => ?_)
              have hl : lv_has ls 11 [(4, .int (nI 0)), (8, .int rv), (7, .int (u 15 t z)), (6, .int (u 14 t z)), (5, .int (nI z)), (0, .ref (qa_a y 16 0)), (1, .ref (qa_a y 13 t)), (2, .ref (qa_a y 5 i)), (3, .ref (qa_a y 18 0))] := hl
              refine lv_goto hx hb d_SM_resultOf_87 rfl ?_
              refine lv_iinc (v := nI (z + 1)) hx hb d_SM_resultOf_145 hl (k := 4) rfl (nI_1 z) (by decide) rfl (fun ls hl => ?_)
              have hl : lv_has ls 11 [(5, .int (nI (z + 1))), (4, .int (nI 0)), (8, .int rv), (7, .int (u 15 t z)), (6, .int (u 14 t z)), (0, .ref (qa_a y 16 0)), (1, .ref (qa_a y 13 t)), (2, .ref (qa_a y 5 i)), (3, .ref (qa_a y 18 0))] := hl
              refine lv_goto hx hb d_SM_resultOf_148 rfl ?_
              exact ih (z + 1) u6 H locs 0 r ls (by omega) hC ⟨by omega, by rw [e3, qa_up_s], by rw [e3, qa_up_kk (by decide)]; exact i3.2, fun k h1 h2 => by rw [e3, qa_up_kk h1]; exact i4 k h1 h2, by omega, by rw [← i6, qm_ex_0 hz, if_neg (by rw [r0]; exact fun q9 => q9 rfl), if_pos o8]; rw [if_neg (show ¬ (b :: r).headD 0 = 0 from fun q9 => h76 (e4.trans q9))]; rfl⟩ (lv_sub hl [0, 1, 5, 6, 7, 8] rfl)
            · refine lv_iload hx hb d_SM_resultOf_79 (lv_at hl 1 rfl) ?_
              refine lv_goto hx hb d_SM_resultOf_81 rfl ?_
              obtain ⟨j, hj, e5⟩ := hok.2.2.2 h69
              rw [e5]
              refine lv_istore hx hb d_SM_resultOf_85 hl (by decide) rfl (fun ls hl => ?_)
              have hl : lv_has ls 11 [(4, .int (nI j)), (8, .int rv), (7, .int (u 15 t z)), (6, .int (u 14 t z)), (5, .int (nI z)), (0, .ref (qa_a y 16 0)), (1, .ref (qa_a y 13 t)), (2, .ref (qa_a y 5 i)), (3, .ref (qa_a y 18 0))] := hl
              refine lv_goto hx hb d_SM_resultOf_87 rfl ?_
              refine lv_iinc (v := nI (z + 1)) hx hb d_SM_resultOf_145 hl (k := 4) rfl (nI_1 z) (by decide) rfl (fun ls hl => ?_)
              have hl : lv_has ls 11 [(5, .int (nI (z + 1))), (4, .int (nI j)), (8, .int rv), (7, .int (u 15 t z)), (6, .int (u 14 t z)), (0, .ref (qa_a y 16 0)), (1, .ref (qa_a y 13 t)), (2, .ref (qa_a y 5 i)), (3, .ref (qa_a y 18 0))] := hl
              refine lv_goto hx hb d_SM_resultOf_148 rfl ?_
              exact ih (z + 1) u6 H locs j r ls (by omega) hC ⟨by omega, by rw [e3, qa_up_s], by rw [e3, qa_up_kk (by decide)]; exact i3.2, fun k h1 h2 => by rw [e3, qa_up_kk h1]; exact i4 k h1 h2, hj, by rw [← i6, qm_ex_0 hz, if_neg (by rw [r0]; exact fun q9 => q9 rfl), if_pos o8]; rw [if_pos (by rw [← h76]; exact e4.symm), ← o2, e5, qm_ix_n (by omega)]; rfl⟩ (lv_sub hl [0, 1, 5, 6, 7, 8] rfl)
        · refine lv_iload hx hb d_SM_resultOf_62 (lv_at hl 0 rfl) ?_
          exact qa_mret E hC hr hlocks ⟨by rw [← i6, qm_ex_0 hz, if_pos (by rw [← r9]; exact h59)]; exact r9, i4⟩ d_SM_resultOf_64
      · obtain ⟨q, rfl⟩ : ∃ q, kk = q + 1 := ⟨kk - 1, by rcases kk with _ | q; exact absurd (by decide) h22; omega⟩
        have hl : lv_has ls 11 [(5, .int (nI z)), (4, .int (nI (q + 1))), (0, .ref (qa_a y 16 0)), (1, .ref (qa_a y 13 t)), (2, .ref (qa_a y 5 i)), (3, .ref (qa_a y 18 0))] := hl
        refine lv_iinc (v := nI q) hx hb d_SM_resultOf_25 hl (k := 1) rfl (pk_m1 q) (by decide) rfl (fun ls hl => ?_)
        have hl : lv_has ls 11 [(4, .int (nI q)), (5, .int (nI z)), (0, .ref (qa_a y 16 0)), (1, .ref (qa_a y 13 t)), (2, .ref (qa_a y 5 i)), (3, .ref (qa_a y 18 0))] := hl
        refine lv_goto hx hb d_SM_resultOf_28 rfl ?_
        refine lv_iinc (v := nI (z + 1)) hx hb d_SM_resultOf_145 hl (k := 1) rfl (nI_1 z) (by decide) rfl (fun ls hl => ?_)
        have hl : lv_has ls 11 [(5, .int (nI (z + 1))), (4, .int (nI q)), (0, .ref (qa_a y 16 0)), (1, .ref (qa_a y 13 t)), (2, .ref (qa_a y 5 i)), (3, .ref (qa_a y 18 0))] := hl
        refine lv_goto hx hb d_SM_resultOf_148 rfl ?_
        exact ih (z + 1) u H locs q stk ls (by omega) hC ⟨i1, i2, i3, i4, by omega, by rw [← i6]; exact (qm_ex_s hz).symm⟩ (lv_sub hl [0, 1, 2, 3, 4, 5] rfl)
  refine lv_aload_n hx hb d_SM_resultOf_0 rfl (lv_at hl 0 rfl) ?_
  refine lv_iconst (v := 0) hx hb d_SM_resultOf_1 (by decide) ?_
  refine qa_put (k := 16) (i := 0) (f := 1) E hC Nat.one_pos rfl rfl (by decide) f_SM_15 rfl rfl rfl rfl d_SM_resultOf_2 (fun H locs hC => ?_)
  refine lv_iconst (v := 0) hx hb d_SM_resultOf_5 (by decide) ?_
  refine lv_istore hx hb d_SM_resultOf_6 hl (by decide) rfl (fun ls hl => ?_)
  have hl : lv_has ls 11 [(4, .int 0), (0, .ref (qa_a y 16 0)), (1, .ref (qa_a y 13 t)), (2, .ref (qa_a y 5 i)), (3, .ref (qa_a y 18 0))] := hl
  refine lv_iconst (v := 0) hx hb d_SM_resultOf_8 (by decide) ?_
  refine lv_istore hx hb d_SM_resultOf_9 hl (by decide) rfl (fun ls hl => ?_)
  have hl : lv_has ls 11 [(5, .int 0), (4, .int 0), (0, .ref (qa_a y 16 0)), (1, .ref (qa_a y 13 t)), (2, .ref (qa_a y 5 i)), (3, .ref (qa_a y 18 0))] := hl
  exact loop L 0 (qa_up v 16 0 1 0) H locs 0 [] ls (by omega) hC ⟨by simp, qa_up_s, trivial, fun k h1 h2 => qa_up_kk h1, by omega, by rw [Nat.sub_zero]⟩ (lv_sub hl [0, 1, 2, 3, 4, 5] rfl)

set_option maxHeartbeats 4000000 in
set_option maxRecDepth 100000 in
theorem c_SM_resultOf_19_18 (l : Launch) (y : qa_L) (v : qa_M) (t L : Nat) (ht : t < 4) (hL : v 13 t 2 = nI L) (hL12 : L ≤ 12) (hP : ∀ z, z < L → qm_iok (qa_n y) (v 14 t z) (v 15 t z)) : qa_Mi l y_SM_resultOf b_SM_resultOf 11 (some .int) 2 [.ref (qa_a y 16 0), .ref (qa_a y 13 t), .ref (qa_a y 19 0), .ref (qa_a y 18 0)] y v (fun r u => r = qm_ex (v 14 t) (v 15 t) (v 19 0) (v 18 0) L 0 0 [] ∧ ∀ k, k ≠ 16 → k ≠ 17 → u k = v k) := by
  refine qa_ofMi (plainFor_of_name (by decide)) (Nat.le_of_ble_eq_true rfl) ?_
  intro p e s m below meth c ls E hr hlocks hC hl
  have E : qa_E p m c b_SM_resultOf 11 s _ "VotedFrames$StackMachine" y := E
  have F := E.1
  have hx := F.1
  have hb := F.2.1
  have hown : s.vm.findClass "VotedFrames$StackMachine" = some m.cls := F.2.2.2.1
  have hts := F.2.2.2.2
  have hn4 : 4 ≤ qa_n y := E.2.1.2.2.1
  have hn7 : qa_n y ≤ 7 := E.2.1.2.2.2.1
  have hl : lv_has ls 11 [(0, .ref (qa_a y 16 0)), (1, .ref (qa_a y 13 t)), (2, .ref (qa_a y 19 0)), (3, .ref (qa_a y 18 0))] := hl
  have loop : ∀ (d z : Nat) (u : qa_M) (H : Heap) (locs : List Loc) (kk : Nat) (stk : List Int32) (ls : Array Slot), z + d = L → qa_C y u s H locs → (stk.length ≤ 6 ∧ u 16 0 1 = nI stk.length ∧ qm_st (u 17 0) stk ∧ (∀ k, k ≠ 16 → k ≠ 17 → u k = v k) ∧ kk ≤ 11 ∧ qm_ex (v 14 t) (v 15 t) (v 19 0) (v 18 0) (L - z) z kk stk = qm_ex (v 14 t) (v 15 t) (v 19 0) (v 18 0) L 0 0 []) → lv_has ls 11 [(5, .int (nI z)), (4, .int (nI kk)), (0, .ref (qa_a y 16 0)), (1, .ref (qa_a y 13 t)), (2, .ref (qa_a y 19 0)), (3, .ref (qa_a y 18 0))] → W p l e (qa_R 2) s m [.ref (qa_a y 16 0), .ref (qa_a y 13 t), .ref (qa_a y 19 0), .ref (qa_a y 18 0)].toArray below meth c H locs 0 0 (MQ below (va_Qi (fun r u => r = qm_ex (v 14 t) (v 15 t) (v 19 0) (v 18 0) L 0 0 [] ∧ ∀ k, k ≠ 16 → k ≠ 17 → u k = v k) (fun u t => qa_W y u t) (qa_A y)) [.ref (qa_a y 16 0), .ref (qa_a y 13 t), .ref (qa_a y 19 0), .ref (qa_a y 18 0)].toArray s 0 0 (qa_A y)) (F0 m 11 ls []) := by
    intro d
    induction d with
    | zero =>
      intro z u H locs kk stk ls hkd hC hI hl
      obtain rfl : L = z := by omega
      obtain ⟨i1, i2, i3, i4, i5, i6⟩ := hI
      have hq : u 13 t 2 = nI L := by rw [i4 13 (by decide) (by decide)]; exact hL
      cases stk with
      | nil =>
        have e8 : (-1000000001 : Int32) = qm_ex (v 14 t) (v 15 t) (v 19 0) (v 18 0) 0 L kk [] := by unfold qm_ex; rfl
        refine lv_iload hx hb d_SM_resultOf_11 (lv_at hl 0 rfl) ?_
        refine lv_aload_n hx hb d_SM_resultOf_13 rfl (lv_at hl 3 rfl) ?_
        refine qa_get (k := 13) (i := t) (f := 2) (val := .int (u 13 t 2)) E hC ht rfl rfl (by decide) f_SM_19 rfl rfl d_SM_resultOf_14 ?_
        refine lv_icmp_ge hx hb d_SM_resultOf_17 rfl (fun _ => ?_) (fun h9 => absurd (by rw [hq]; exact nI_le (Nat.le_refl _) (by omega)) h9)
        refine lv_aload_n hx hb d_SM_resultOf_151 rfl (lv_at hl 2 rfl) ?_
        refine qa_get (k := 16) (i := 0) (f := 1) (val := .int (u 16 0 1)) E hC Nat.one_pos rfl rfl (by decide) f_SM_15 rfl rfl d_SM_resultOf_152 ?_
        refine lv_if_ne hx hb d_SM_resultOf_155 rfl (fun h9 => absurd i2 h9) (fun _ => ?_)
        refine lv_ldc (v := -1000000001) hx hb hown (hts _ k_SM_50) d_SM_resultOf_158 ?_
        refine lv_goto hx hb d_SM_resultOf_160 rfl ?_
        exact qa_mret E hC hr hlocks ⟨by rw [← i6, Nat.sub_self]; exact e8, i4⟩ d_SM_resultOf_174
      | cons b r =>
        have e7 : u 16 0 1 - 1 = nI r.length := by rw [i2, List.length_cons, nI_pred]
        have e8 : u 17 0 r.length = qm_ex (v 14 t) (v 15 t) (v 19 0) (v 18 0) 0 L kk (b :: r) := by unfold qm_ex; exact i3.1
        have e6 : r.length < 6 := by simp at i1; omega
        refine lv_iload hx hb d_SM_resultOf_11 (lv_at hl 0 rfl) ?_
        refine lv_aload_n hx hb d_SM_resultOf_13 rfl (lv_at hl 3 rfl) ?_
        refine qa_get (k := 13) (i := t) (f := 2) (val := .int (u 13 t 2)) E hC ht rfl rfl (by decide) f_SM_19 rfl rfl d_SM_resultOf_14 ?_
        refine lv_icmp_ge hx hb d_SM_resultOf_17 rfl (fun _ => ?_) (fun h9 => absurd (by rw [hq]; exact nI_le (Nat.le_refl _) (by omega)) h9)
        refine lv_aload_n hx hb d_SM_resultOf_151 rfl (lv_at hl 2 rfl) ?_
        refine qa_get (k := 16) (i := 0) (f := 1) (val := .int (u 16 0 1)) E hC Nat.one_pos rfl rfl (by decide) f_SM_15 rfl rfl d_SM_resultOf_152 ?_
        refine lv_if_ne hx hb d_SM_resultOf_155 rfl (fun _ => ?_) (fun h9 => absurd h9 (by rw [i2]; exact nI_ne0 (by simp) (by omega)))
        refine lv_aload_n hx hb d_SM_resultOf_163 rfl (lv_at hl 2 rfl) ?_
        refine qa_get (k := 16) (i := 0) (f := 0) (val := .ref (qa_a y 17 0)) E hC Nat.one_pos rfl rfl (by decide) f_SM_11 rfl rfl d_SM_resultOf_164 ?_
        refine lv_aload_n hx hb d_SM_resultOf_167 rfl (lv_at hl 2 rfl) ?_
        refine qa_get (k := 16) (i := 0) (f := 1) (val := .int (u 16 0 1)) E hC Nat.one_pos rfl rfl (by decide) f_SM_15 rfl rfl d_SM_resultOf_168 ?_
        refine lv_iconst (v := 1) hx hb d_SM_resultOf_171 (by decide) ?_
        refine lv_isub hx hb d_SM_resultOf_172 ?_
        refine qa_ild (k := 17) (i := 0) (j := r.length) E hC Nat.one_pos rfl rfl e7 e6 d_SM_resultOf_173 ?_
        exact qa_mret E hC hr hlocks ⟨by rw [← i6, Nat.sub_self]; exact e8, i4⟩ d_SM_resultOf_174
    | succ d ih =>
      intro z u H locs kk stk ls hkd hC hI hl
      have hz : z < L := by omega
      obtain ⟨i1, i2, i3, i4, i5, i6⟩ := hI
      have hq : u 13 t 2 = nI L := by rw [i4 13 (by decide) (by decide)]; exact hL
      have hz12 : z < 12 := by omega
      refine lv_iload hx hb d_SM_resultOf_11 (lv_at hl 0 rfl) ?_
      refine lv_aload_n hx hb d_SM_resultOf_13 rfl (lv_at hl 3 rfl) ?_
      refine qa_get (k := 13) (i := t) (f := 2) (val := .int (u 13 t 2)) E hC ht rfl rfl (by decide) f_SM_19 rfl rfl d_SM_resultOf_14 ?_
      refine lv_icmp_ge hx hb d_SM_resultOf_17 rfl (fun h9 => absurd h9 (by rw [hq]; exact nI_ge hz (by omega))) (fun _ => ?_)
      refine lv_iload hx hb d_SM_resultOf_20 (lv_at hl 1 rfl) ?_
      refine lv_if_le hx hb d_SM_resultOf_22 rfl (fun h22 => ?_) (fun h22 => ?_)
      · obtain rfl : kk = 0 := by
          rcases kk with _ | q
          · rfl
          · exact absurd h22 (nI_nle (by omega) (by omega))
        have hl : lv_has ls 11 [(5, .int (nI z)), (4, .int (nI 0)), (0, .ref (qa_a y 16 0)), (1, .ref (qa_a y 13 t)), (2, .ref (qa_a y 19 0)), (3, .ref (qa_a y 18 0))] := hl
        have o1 : u 14 t = v 14 t := by rw [i4 14 (by decide) (by decide)]
        have o2 : u 15 t = v 15 t := by rw [i4 15 (by decide) (by decide)]
        have hok : qm_iok (qa_n y) (u 14 t z) (u 15 t z) := by rw [o1, o2]; exact hP z hz
        have o3 : u 19 = v 19 := i4 19 (by decide) (by decide)
        have o4 : u 18 = v 18 := i4 18 (by decide) (by decide)
        have htop : stk.length ≠ 0 → u 17 0 (stk.length - 1) = stk.headD 0 := by
          intro hne
          cases stk with
          | nil => exact absurd rfl hne
          | cons b r => exact i3.1
        refine lv_aload_n hx hb d_SM_resultOf_31 rfl (lv_at hl 3 rfl) ?_
        refine qa_get (k := 13) (i := t) (f := 0) (val := .ref (qa_a y 14 t)) E hC ht rfl rfl (by decide) f_SM_24 rfl rfl d_SM_resultOf_32 ?_
        refine lv_iload hx hb d_SM_resultOf_35 (lv_at hl 0 rfl) ?_
        refine qa_ild (k := 14) (i := t) (j := z) E hC ht rfl rfl rfl hz12 d_SM_resultOf_37 ?_
        refine lv_istore hx hb d_SM_resultOf_38 hl (by decide) rfl (fun ls hl => ?_)
        have hl : lv_has ls 11 [(6, .int (u 14 t z)), (5, .int (nI z)), (4, .int (nI 0)), (0, .ref (qa_a y 16 0)), (1, .ref (qa_a y 13 t)), (2, .ref (qa_a y 19 0)), (3, .ref (qa_a y 18 0))] := hl
        refine lv_aload_n hx hb d_SM_resultOf_40 rfl (lv_at hl 4 rfl) ?_
        refine qa_get (k := 13) (i := t) (f := 1) (val := .ref (qa_a y 15 t)) E hC ht rfl rfl (by decide) f_SM_27 rfl rfl d_SM_resultOf_41 ?_
        refine lv_iload hx hb d_SM_resultOf_44 (lv_at hl 1 rfl) ?_
        refine qa_ild (k := 15) (i := t) (j := z) E hC ht rfl rfl rfl hz12 d_SM_resultOf_46 ?_
        refine lv_istore hx hb d_SM_resultOf_47 hl (by decide) rfl (fun ls hl => ?_)
        have hl : lv_has ls 11 [(7, .int (u 15 t z)), (6, .int (u 14 t z)), (5, .int (nI z)), (4, .int (nI 0)), (0, .ref (qa_a y 16 0)), (1, .ref (qa_a y 13 t)), (2, .ref (qa_a y 19 0)), (3, .ref (qa_a y 18 0))] := hl
        refine lv_aload_n hx hb d_SM_resultOf_49 rfl (lv_at hl 4 rfl) ?_
        refine lv_iload hx hb d_SM_resultOf_50 (lv_at hl 1 rfl) ?_
        refine qa_pV (k := 16) (i := 0) (As := [.int (u 14 t z)]) E hC (c_SM_refusalOf l y u (u 14 t z) stk.length i2 i1) Nat.one_pos rfl rfl k_SM_30 (qa_fitR (by decide) (by decide)) rfl hl.1 rfl (Nat.le_of_ble_eq_true rfl) d_SM_resultOf_52 ?_
        refine lv_topi (fun rv rv9 => ?_)
        have r9 : rv = qm_rf (v 14 t z) stk.length (stk.headD 0) := by
          rw [rv9, o1]
          by_cases hne : stk.length = 0
          · cases stk with
            | nil => exact qm_rf_0 _ _ _
            | cons b r => simp at hne
          · rw [htop hne]
        refine lv_istore hx hb d_SM_resultOf_55 hl (by decide) rfl (fun ls hl => ?_)
        have hl : lv_has ls 11 [(8, .int rv), (7, .int (u 15 t z)), (6, .int (u 14 t z)), (5, .int (nI z)), (4, .int (nI 0)), (0, .ref (qa_a y 16 0)), (1, .ref (qa_a y 13 t)), (2, .ref (qa_a y 19 0)), (3, .ref (qa_a y 18 0))] := hl
        refine lv_iload hx hb d_SM_resultOf_57 (lv_at hl 0 rfl) ?_
        refine lv_if_eq hx hb d_SM_resultOf_59 rfl (fun h59 => ?_) (fun h59 => ?_)
        · have r0 : qm_rf (v 14 t z) stk.length (stk.headD 0) = 0 := by rw [← r9]; exact h59
          refine lv_iload hx hb d_SM_resultOf_65 (lv_at hl 2 rfl) ?_
          refine lv_bipush (v := 8) hx hb d_SM_resultOf_67 (by decide) ?_
          refine lv_icmp_ne hx hb d_SM_resultOf_69 rfl (fun h69 => ?_) (fun h69 => ?_)
          · refine lv_iload hx hb d_SM_resultOf_90 (lv_at hl 2 rfl) ?_
            refine lv_iconst (v := 3) hx hb d_SM_resultOf_92 (by decide) ?_
            refine lv_icmp_lt hx hb d_SM_resultOf_93 rfl (fun h93 => ?_) (fun h93 => ?_)
            · have o9 : u 14 t z ≤ 2 ∨ u 14 t z = 9 := qm_op29 hok.1 h69 (Or.inl h93)
              have d6 := qm_rf_d6 (by rw [← o1] at r0; exact r0) i1 o9
              refine lv_aload_n hx hb d_SM_resultOf_131 rfl (lv_at hl 5 rfl) ?_
              refine lv_aload_n hx hb d_SM_resultOf_132 rfl (lv_at hl 5 rfl) ?_
              refine lv_iload hx hb d_SM_resultOf_133 (lv_at hl 2 rfl) ?_
              refine lv_iload hx hb d_SM_resultOf_135 (lv_at hl 1 rfl) ?_
              refine lv_aload_n hx hb d_SM_resultOf_137 rfl (lv_at hl 7 rfl) ?_
              refine lv_aload_n hx hb d_SM_resultOf_138 rfl (lv_at hl 8 rfl) ?_
              refine qa_pV (k := 16) (i := 0) (As := [.int (u 14 t z), .int (u 15 t z), .ref (qa_a y 19 0), .ref (qa_a y 18 0)]) E hC (c_SM_fetch_19_18 l y u (u 14 t z) (u 15 t z) stk.length hok i2 i1 (fun q9 => qm_rf_d1 (by rw [← o1] at r0; exact r0) i1 (Or.inr q9))) Nat.one_pos rfl rfl k_SM_46 (qa_fitR (by decide) (by decide)) rfl hl.1 rfl (Nat.le_of_ble_eq_true rfl) d_SM_resultOf_139 ?_
              refine qa_mVv (k := 16) (i := 0) (As := [.int (qm_fe (u 14 t z) (u 15 t z) (u 19 0) (u 18 0) (u 17 0 (stk.length - 1)))]) E hC (c_SM_push l y u stk.length (qm_fe (u 14 t z) (u 15 t z) (u 19 0) (u 18 0) (u 17 0 (stk.length - 1))) i2 d6) Nat.one_pos rfl rfl k_SM_42 (qa_fitR (by decide) (by decide)) rfl hl.1 rfl (Nat.le_of_ble_eq_true rfl) d_SM_resultOf_142 (fun u1 H locs hp1 hC => ?_)
              have g3 := hp1
              have f9 : qm_fe (u 14 t z) (u 15 t z) (u 19 0) (u 18 0) (u 17 0 (stk.length - 1)) = qm_fe (v 14 t z) (v 15 t z) (v 19 0) (v 18 0) (stk.headD 0) := by
                rw [o1, o2, o3, o4]
                by_cases hne : stk.length = 0
                · have n9 : ¬ v 14 t z = 9 := fun q9 => by
                    have := qm_rf_d1 r0 i1 (Or.inr q9)
                    omega
                  unfold qm_fe
                  simp only [if_neg n9]
                · rw [htop hne]
              refine lv_iinc (v := nI (z + 1)) hx hb d_SM_resultOf_145 hl (k := 3) rfl (nI_1 z) (by decide) rfl (fun ls hl => ?_)
              have hl : lv_has ls 11 [(5, .int (nI (z + 1))), (8, .int rv), (7, .int (u 15 t z)), (6, .int (u 14 t z)), (4, .int (nI 0)), (0, .ref (qa_a y 16 0)), (1, .ref (qa_a y 13 t)), (2, .ref (qa_a y 19 0)), (3, .ref (qa_a y 18 0))] := hl
              refine lv_goto hx hb d_SM_resultOf_148 rfl ?_
              exact ih (z + 1) u1 H locs 0 (qm_fe (u 14 t z) (u 15 t z) (u 19 0) (u 18 0) (u 17 0 (stk.length - 1)) :: stk) ls (by omega) hC ⟨by simp; omega, by rw [g3, qa_up_s]; rfl, ⟨by rw [g3, qa_up_kk (by decide), qa_up_s], qm_st_n i3 (fun q hq => by rw [g3, qa_up_kk (by decide), qa_up_f (by omega)])⟩, fun k h1 h2 => by rw [g3, qa_up_kk h1, qa_up_kk h2]; exact i4 k h1 h2, by omega, by rw [← i6, qm_ex_0 hz, if_neg (by rw [r0]; exact fun q9 => q9 rfl), if_neg (by rw [← o1]; exact h69), if_neg (fun q9 => q9.1 (by rw [← o1]; exact h93)), f9]⟩ (lv_sub hl [0, 4, 5, 6, 7, 8] rfl)
            · refine lv_iload hx hb d_SM_resultOf_96 (lv_at hl 2 rfl) ?_
              refine lv_bipush (v := 7) hx hb d_SM_resultOf_98 (by decide) ?_
              refine lv_icmp_gt hx hb d_SM_resultOf_100 rfl (fun h100 => ?_) (fun h100 => ?_)
              · have o9 : u 14 t z ≤ 2 ∨ u 14 t z = 9 := qm_op29 hok.1 h69 (Or.inr h100)
                have d6 := qm_rf_d6 (by rw [← o1] at r0; exact r0) i1 o9
                refine lv_aload_n hx hb d_SM_resultOf_131 rfl (lv_at hl 5 rfl) ?_
                refine lv_aload_n hx hb d_SM_resultOf_132 rfl (lv_at hl 5 rfl) ?_
                refine lv_iload hx hb d_SM_resultOf_133 (lv_at hl 2 rfl) ?_
                refine lv_iload hx hb d_SM_resultOf_135 (lv_at hl 1 rfl) ?_
                refine lv_aload_n hx hb d_SM_resultOf_137 rfl (lv_at hl 7 rfl) ?_
                refine lv_aload_n hx hb d_SM_resultOf_138 rfl (lv_at hl 8 rfl) ?_
                refine qa_pV (k := 16) (i := 0) (As := [.int (u 14 t z), .int (u 15 t z), .ref (qa_a y 19 0), .ref (qa_a y 18 0)]) E hC (c_SM_fetch_19_18 l y u (u 14 t z) (u 15 t z) stk.length hok i2 i1 (fun q9 => qm_rf_d1 (by rw [← o1] at r0; exact r0) i1 (Or.inr q9))) Nat.one_pos rfl rfl k_SM_46 (qa_fitR (by decide) (by decide)) rfl hl.1 rfl (Nat.le_of_ble_eq_true rfl) d_SM_resultOf_139 ?_
                refine qa_mVv (k := 16) (i := 0) (As := [.int (qm_fe (u 14 t z) (u 15 t z) (u 19 0) (u 18 0) (u 17 0 (stk.length - 1)))]) E hC (c_SM_push l y u stk.length (qm_fe (u 14 t z) (u 15 t z) (u 19 0) (u 18 0) (u 17 0 (stk.length - 1))) i2 d6) Nat.one_pos rfl rfl k_SM_42 (qa_fitR (by decide) (by decide)) rfl hl.1 rfl (Nat.le_of_ble_eq_true rfl) d_SM_resultOf_142 (fun u2 H locs hp2 hC => ?_)
                have g3 := hp2
                have f9 : qm_fe (u 14 t z) (u 15 t z) (u 19 0) (u 18 0) (u 17 0 (stk.length - 1)) = qm_fe (v 14 t z) (v 15 t z) (v 19 0) (v 18 0) (stk.headD 0) := by
                  rw [o1, o2, o3, o4]
                  by_cases hne : stk.length = 0
                  · have n9 : ¬ v 14 t z = 9 := fun q9 => by
                      have := qm_rf_d1 r0 i1 (Or.inr q9)
                      omega
                    unfold qm_fe
                    simp only [if_neg n9]
                  · rw [htop hne]
                refine lv_iinc (v := nI (z + 1)) hx hb d_SM_resultOf_145 hl (k := 3) rfl (nI_1 z) (by decide) rfl (fun ls hl => ?_)
                have hl : lv_has ls 11 [(5, .int (nI (z + 1))), (8, .int rv), (7, .int (u 15 t z)), (6, .int (u 14 t z)), (4, .int (nI 0)), (0, .ref (qa_a y 16 0)), (1, .ref (qa_a y 13 t)), (2, .ref (qa_a y 19 0)), (3, .ref (qa_a y 18 0))] := hl
                refine lv_goto hx hb d_SM_resultOf_148 rfl ?_
                exact ih (z + 1) u2 H locs 0 (qm_fe (u 14 t z) (u 15 t z) (u 19 0) (u 18 0) (u 17 0 (stk.length - 1)) :: stk) ls (by omega) hC ⟨by simp; omega, by rw [g3, qa_up_s]; rfl, ⟨by rw [g3, qa_up_kk (by decide), qa_up_s], qm_st_n i3 (fun q hq => by rw [g3, qa_up_kk (by decide), qa_up_f (by omega)])⟩, fun k h1 h2 => by rw [g3, qa_up_kk h1, qa_up_kk h2]; exact i4 k h1 h2, by omega, by rw [← i6, qm_ex_0 hz, if_neg (by rw [r0]; exact fun q9 => q9 rfl), if_neg (by rw [← o1]; exact h69), if_neg (fun q9 => q9.2 (by rw [← o1]; exact h100)), f9]⟩ (lv_sub hl [0, 4, 5, 6, 7, 8] rfl)
              · have d2 := qm_rf_d2 r0 i1 (by rw [← o1]; exact h93) (by rw [← o1]; exact h100)
                obtain ⟨b, a, r, rfl⟩ : ∃ b a r, stk = b :: a :: r := by
                  cases stk with
                  | nil => simp at d2
                  | cons b r =>
                    cases r with
                    | nil => simp at d2
                    | cons a r => exact ⟨b, a, r, rfl⟩
                simp only [List.length_cons] at i1 i2
                refine lv_aload_n hx hb d_SM_resultOf_103 rfl (lv_at hl 5 rfl) ?_
                refine qa_mV (k := 16) (i := 0) (As := []) E hC (c_SM_pop l y u (r.length + 1) i2 (by omega)) Nat.one_pos rfl rfl k_SM_34 (qa_fitR (by decide) (by decide)) rfl hl.1 rfl (Nat.le_of_ble_eq_true rfl) d_SM_resultOf_104 (fun r3 u3 H locs hp3 hC => ?_)
                have e4 : r3 = b := hp3.1.trans i3.1
                have e3 := hp3.2
                refine lv_istore hx hb d_SM_resultOf_107 hl (by decide) rfl (fun ls hl => ?_)
                have hl : lv_has ls 11 [(9, .int r3), (8, .int rv), (7, .int (u 15 t z)), (6, .int (u 14 t z)), (5, .int (nI z)), (4, .int (nI 0)), (0, .ref (qa_a y 16 0)), (1, .ref (qa_a y 13 t)), (2, .ref (qa_a y 19 0)), (3, .ref (qa_a y 18 0))] := hl
                refine lv_aload_n hx hb d_SM_resultOf_109 rfl (lv_at hl 6 rfl) ?_
                have j2 : u3 16 0 1 = nI (r.length + 1) := by rw [e3, qa_up_s]
                refine qa_mV (k := 16) (i := 0) (As := []) E hC (c_SM_pop l y u3 r.length j2 (by omega)) Nat.one_pos rfl rfl k_SM_34 (qa_fitR (by decide) (by decide)) rfl hl.1 rfl (Nat.le_of_ble_eq_true rfl) d_SM_resultOf_110 (fun r4 u4 H locs hp4 hC => ?_)
                have f4 : r4 = a := by rw [hp4.1, e3, qa_up_k (by decide)]; exact i3.2.1
                have f3 := hp4.2
                have j3 : u4 16 0 1 = nI r.length := by rw [f3, qa_up_s]
                refine lv_istore hx hb d_SM_resultOf_113 hl (by decide) rfl (fun ls hl => ?_)
                have hl : lv_has ls 11 [(10, .int r4), (9, .int r3), (8, .int rv), (7, .int (u 15 t z)), (6, .int (u 14 t z)), (5, .int (nI z)), (4, .int (nI 0)), (0, .ref (qa_a y 16 0)), (1, .ref (qa_a y 13 t)), (2, .ref (qa_a y 19 0)), (3, .ref (qa_a y 18 0))] := hl
                refine lv_aload_n hx hb d_SM_resultOf_115 rfl (lv_at hl 7 rfl) ?_
                refine lv_iload hx hb d_SM_resultOf_116 (lv_at hl 4 rfl) ?_
                refine lv_iload hx hb d_SM_resultOf_118 (lv_at hl 0 rfl) ?_
                refine lv_iload hx hb d_SM_resultOf_120 (lv_at hl 1 rfl) ?_
                refine qa_pT (As := [.int (u 14 t z), .int r4, .int r3]) F (c_SM_combine l (u 14 t z) r4 r3) k_SM_38 (qa_fitR (by decide) (by decide)) rfl hl.1 rfl (Nat.le_of_ble_eq_true rfl) d_SM_resultOf_122 ?_
                refine qa_mVv (k := 16) (i := 0) (As := [.int (qm_two (u 14 t z) r4 r3)]) E hC (c_SM_push l y u4 r.length (qm_two (u 14 t z) r4 r3) j3 (by omega)) Nat.one_pos rfl rfl k_SM_42 (qa_fitR (by decide) (by decide)) rfl hl.1 rfl (Nat.le_of_ble_eq_true rfl) d_SM_resultOf_125 (fun u5 H locs hp5 hC => ?_)
                have g3 := hp5
                refine lv_goto hx hb d_SM_resultOf_128 rfl ?_
                refine lv_iinc (v := nI (z + 1)) hx hb d_SM_resultOf_145 hl (k := 5) rfl (nI_1 z) (by decide) rfl (fun ls hl => ?_)
                have hl : lv_has ls 11 [(5, .int (nI (z + 1))), (10, .int r4), (9, .int r3), (8, .int rv), (7, .int (u 15 t z)), (6, .int (u 14 t z)), (4, .int (nI 0)), (0, .ref (qa_a y 16 0)), (1, .ref (qa_a y 13 t)), (2, .ref (qa_a y 19 0)), (3, .ref (qa_a y 18 0))] := hl
                refine lv_goto hx hb d_SM_resultOf_148 rfl ?_
                exact ih (z + 1) u5 H locs 0 (qm_two (u 14 t z) r4 r3 :: r) ls (by omega) hC ⟨by simp; omega, by rw [g3, qa_up_s]; rfl, ⟨by rw [g3, qa_up_kk (by decide), qa_up_s], qm_st_n i3.2.2 (fun q hq => by rw [g3, qa_up_kk (by decide), qa_up_f (by omega), f3, qa_up_kk (by decide), e3, qa_up_kk (by decide)])⟩, fun k h1 h2 => by rw [g3, qa_up_kk h1, qa_up_kk h2, f3, qa_up_kk h1, e3, qa_up_kk h1]; exact i4 k h1 h2, by omega, by rw [← i6, qm_ex_0 hz, if_neg (by rw [r0]; exact fun q9 => q9 rfl), if_neg (by rw [← o1]; exact h69), if_pos ⟨by rw [← o1]; exact h93, by rw [← o1]; exact h100⟩, e4, f4, o1]; rfl⟩ (lv_sub hl [0, 6, 7, 8, 9, 10] rfl)
          · have o8 : v 14 t z = 8 := by rw [← o1]; exact h69
            have d1 := qm_rf_d1 r0 i1 (Or.inl o8)
            obtain ⟨b, r, rfl⟩ : ∃ b r, stk = b :: r := by
              cases stk with
              | nil => simp at d1
              | cons b r => exact ⟨b, r, rfl⟩
            simp only [List.length_cons] at i1 i2
            refine lv_aload_n hx hb d_SM_resultOf_72 rfl (lv_at hl 5 rfl) ?_
            refine qa_mV (k := 16) (i := 0) (As := []) E hC (c_SM_pop l y u r.length i2 (by omega)) Nat.one_pos rfl rfl k_SM_34 (qa_fitR (by decide) (by decide)) rfl hl.1 rfl (Nat.le_of_ble_eq_true rfl) d_SM_resultOf_73 (fun r6 u6 H locs hp6 hC => ?_)
            have e4 : r6 = b := hp6.1.trans i3.1
            have e3 := hp6.2
            refine lv_if_ne hx hb d_SM_resultOf_76 rfl (fun h76 => ?_) (fun h76 => ?_)
            · refine lv_iconst (v := 0) hx hb d_SM_resultOf_84 (by decide) ?_
              rw [show (0 : Int32) = nI 0 from rfl]
              refine lv_istore hx hb d_SM_resultOf_85 hl (by decide) rfl (fun ls hl => ?_)
              have hl : lv_has ls 11 [(4, .int (nI 0)), (8, .int rv), (7, .int (u 15 t z)), (6, .int (u 14 t z)), (5, .int (nI z)), (0, .ref (qa_a y 16 0)), (1, .ref (qa_a y 13 t)), (2, .ref (qa_a y 19 0)), (3, .ref (qa_a y 18 0))] := hl
              refine lv_goto hx hb d_SM_resultOf_87 rfl ?_
              refine lv_iinc (v := nI (z + 1)) hx hb d_SM_resultOf_145 hl (k := 4) rfl (nI_1 z) (by decide) rfl (fun ls hl => ?_)
              have hl : lv_has ls 11 [(5, .int (nI (z + 1))), (4, .int (nI 0)), (8, .int rv), (7, .int (u 15 t z)), (6, .int (u 14 t z)), (0, .ref (qa_a y 16 0)), (1, .ref (qa_a y 13 t)), (2, .ref (qa_a y 19 0)), (3, .ref (qa_a y 18 0))] := hl
              refine lv_goto hx hb d_SM_resultOf_148 rfl ?_
              exact ih (z + 1) u6 H locs 0 r ls (by omega) hC ⟨by omega, by rw [e3, qa_up_s], by rw [e3, qa_up_kk (by decide)]; exact i3.2, fun k h1 h2 => by rw [e3, qa_up_kk h1]; exact i4 k h1 h2, by omega, by rw [← i6, qm_ex_0 hz, if_neg (by rw [r0]; exact fun q9 => q9 rfl), if_pos o8]; rw [if_neg (show ¬ (b :: r).headD 0 = 0 from fun q9 => h76 (e4.trans q9))]; rfl⟩ (lv_sub hl [0, 1, 5, 6, 7, 8] rfl)
            · refine lv_iload hx hb d_SM_resultOf_79 (lv_at hl 1 rfl) ?_
              refine lv_goto hx hb d_SM_resultOf_81 rfl ?_
              obtain ⟨j, hj, e5⟩ := hok.2.2.2 h69
              rw [e5]
              refine lv_istore hx hb d_SM_resultOf_85 hl (by decide) rfl (fun ls hl => ?_)
              have hl : lv_has ls 11 [(4, .int (nI j)), (8, .int rv), (7, .int (u 15 t z)), (6, .int (u 14 t z)), (5, .int (nI z)), (0, .ref (qa_a y 16 0)), (1, .ref (qa_a y 13 t)), (2, .ref (qa_a y 19 0)), (3, .ref (qa_a y 18 0))] := hl
              refine lv_goto hx hb d_SM_resultOf_87 rfl ?_
              refine lv_iinc (v := nI (z + 1)) hx hb d_SM_resultOf_145 hl (k := 4) rfl (nI_1 z) (by decide) rfl (fun ls hl => ?_)
              have hl : lv_has ls 11 [(5, .int (nI (z + 1))), (4, .int (nI j)), (8, .int rv), (7, .int (u 15 t z)), (6, .int (u 14 t z)), (0, .ref (qa_a y 16 0)), (1, .ref (qa_a y 13 t)), (2, .ref (qa_a y 19 0)), (3, .ref (qa_a y 18 0))] := hl
              refine lv_goto hx hb d_SM_resultOf_148 rfl ?_
              exact ih (z + 1) u6 H locs j r ls (by omega) hC ⟨by omega, by rw [e3, qa_up_s], by rw [e3, qa_up_kk (by decide)]; exact i3.2, fun k h1 h2 => by rw [e3, qa_up_kk h1]; exact i4 k h1 h2, hj, by rw [← i6, qm_ex_0 hz, if_neg (by rw [r0]; exact fun q9 => q9 rfl), if_pos o8]; rw [if_pos (by rw [← h76]; exact e4.symm), ← o2, e5, qm_ix_n (by omega)]; rfl⟩ (lv_sub hl [0, 1, 5, 6, 7, 8] rfl)
        · refine lv_iload hx hb d_SM_resultOf_62 (lv_at hl 0 rfl) ?_
          exact qa_mret E hC hr hlocks ⟨by rw [← i6, qm_ex_0 hz, if_pos (by rw [← r9]; exact h59)]; exact r9, i4⟩ d_SM_resultOf_64
      · obtain ⟨q, rfl⟩ : ∃ q, kk = q + 1 := ⟨kk - 1, by rcases kk with _ | q; exact absurd (by decide) h22; omega⟩
        have hl : lv_has ls 11 [(5, .int (nI z)), (4, .int (nI (q + 1))), (0, .ref (qa_a y 16 0)), (1, .ref (qa_a y 13 t)), (2, .ref (qa_a y 19 0)), (3, .ref (qa_a y 18 0))] := hl
        refine lv_iinc (v := nI q) hx hb d_SM_resultOf_25 hl (k := 1) rfl (pk_m1 q) (by decide) rfl (fun ls hl => ?_)
        have hl : lv_has ls 11 [(4, .int (nI q)), (5, .int (nI z)), (0, .ref (qa_a y 16 0)), (1, .ref (qa_a y 13 t)), (2, .ref (qa_a y 19 0)), (3, .ref (qa_a y 18 0))] := hl
        refine lv_goto hx hb d_SM_resultOf_28 rfl ?_
        refine lv_iinc (v := nI (z + 1)) hx hb d_SM_resultOf_145 hl (k := 1) rfl (nI_1 z) (by decide) rfl (fun ls hl => ?_)
        have hl : lv_has ls 11 [(5, .int (nI (z + 1))), (4, .int (nI q)), (0, .ref (qa_a y 16 0)), (1, .ref (qa_a y 13 t)), (2, .ref (qa_a y 19 0)), (3, .ref (qa_a y 18 0))] := hl
        refine lv_goto hx hb d_SM_resultOf_148 rfl ?_
        exact ih (z + 1) u H locs q stk ls (by omega) hC ⟨i1, i2, i3, i4, by omega, by rw [← i6]; exact (qm_ex_s hz).symm⟩ (lv_sub hl [0, 1, 2, 3, 4, 5] rfl)
  refine lv_aload_n hx hb d_SM_resultOf_0 rfl (lv_at hl 0 rfl) ?_
  refine lv_iconst (v := 0) hx hb d_SM_resultOf_1 (by decide) ?_
  refine qa_put (k := 16) (i := 0) (f := 1) E hC Nat.one_pos rfl rfl (by decide) f_SM_15 rfl rfl rfl rfl d_SM_resultOf_2 (fun H locs hC => ?_)
  refine lv_iconst (v := 0) hx hb d_SM_resultOf_5 (by decide) ?_
  refine lv_istore hx hb d_SM_resultOf_6 hl (by decide) rfl (fun ls hl => ?_)
  have hl : lv_has ls 11 [(4, .int 0), (0, .ref (qa_a y 16 0)), (1, .ref (qa_a y 13 t)), (2, .ref (qa_a y 19 0)), (3, .ref (qa_a y 18 0))] := hl
  refine lv_iconst (v := 0) hx hb d_SM_resultOf_8 (by decide) ?_
  refine lv_istore hx hb d_SM_resultOf_9 hl (by decide) rfl (fun ls hl => ?_)
  have hl : lv_has ls 11 [(5, .int 0), (4, .int 0), (0, .ref (qa_a y 16 0)), (1, .ref (qa_a y 13 t)), (2, .ref (qa_a y 19 0)), (3, .ref (qa_a y 18 0))] := hl
  exact loop L 0 (qa_up v 16 0 1 0) H locs 0 [] ls (by omega) hC ⟨by simp, qa_up_s, trivial, fun k h1 h2 => qa_up_kk h1, by omega, by rw [Nat.sub_zero]⟩ (lv_sub hl [0, 1, 2, 3, 4, 5] rfl)
end
section
/-! counting, majorities -/
/-- how many of the d places from p on hold x -/
def qm_cs (a : Nat → Int32) (x : Int32) (p : Nat) : Nat → Nat
  | 0 => 0
  | d + 1 => if a (p + d) = x then qm_cs a x p d + 1 else qm_cs a x p d
theorem qm_cs_le (a : Nat → Int32) (x : Int32) (p d : Nat) : qm_cs a x p d ≤ d := by
  induction d with
  | zero => exact Nat.le_refl _
  | succ d ih => unfold qm_cs; split <;> omega
/-- the first place whose value fills more than half of the seats from there on, as majorityPlace tells it -/
def qm_mp (a : Nat → Int32) (sz : Nat) (seats : Int32) : Int32 := match (List.range sz).find? (fun p => decide (seats < 2 * nI (qm_cs a (a p) p (sz - p)))) with
  | some p => nI p
  | none => -1
theorem qm_mp_at {a : Nat → Int32} {sz k : Nat} {seats : Int32} (hk : k < sz) (hb : ∀ p, p < k → 2 * nI (qm_cs a (a p) p (sz - p)) ≤ seats) (h : seats < 2 * nI (qm_cs a (a k) k (sz - k))) : qm_mp a sz seats = nI k := by
  unfold qm_mp
  rw [qm_find hk (fun p hp => decide_eq_false (qm_nlt2 (hb p hp))) (decide_eq_true h)]
theorem qm_mp_no {a : Nat → Int32} {sz : Nat} {seats : Int32} (hb : ∀ p, p < sz → 2 * nI (qm_cs a (a p) p (sz - p)) ≤ seats) : qm_mp a sz seats = -1 := by
  unfold qm_mp
  rw [qm_find_no (fun p hp => decide_eq_false (qm_nlt2 (hb p hp)))]
theorem qm_mp_or (a : Nat → Int32) (sz : Nat) (seats : Int32) : (qm_mp a sz seats = -1 ∧ ∀ p, p < sz → 2 * nI (qm_cs a (a p) p (sz - p)) ≤ seats) ∨ ∃ k, k < sz ∧ qm_mp a sz seats = nI k ∧ seats < 2 * nI (qm_cs a (a k) k (sz - k)) := by
  rcases qm_first (p := fun p => seats < 2 * nI (qm_cs a (a p) p (sz - p))) sz with h | ⟨f, h1, h2, h3⟩
  · exact Or.inl ⟨qm_mp_no (fun p hp => qm_nlt (h p hp)), fun p hp => qm_nlt (h p hp)⟩
  · exact Or.inr ⟨f, h1, qm_mp_at h1 (fun p hp => qm_nlt (h3 p hp)) h2, h2⟩
/-- the array a holds the list l -/
def qm_hd (a : Nat → Int32) (l : List Int32) : Prop := ∀ q, q < l.length → a q = l.getD q 0
theorem qm_hd_n {a b : Nat → Int32} {l : List Int32} (h : qm_hd a l) (hn : ∀ q, q < l.length → b q = a q) : qm_hd b l := fun q hq => (hn q hq).trans (h q hq)
theorem qm_hd_push {a b : Nat → Int32} {l : List Int32} {x : Int32} (h : qm_hd a l) (hx : b l.length = x) (hn : ∀ q, q < l.length → b q = a q) : qm_hd b (l ++ [x]) := by
  intro q hq
  simp only [List.length_append, List.length_cons, List.length_nil] at hq
  by_cases e : q = l.length
  · subst e
    rw [hx]
    simp
  · rw [hn q (by omega), h q (by omega)]
    simp only [List.getD_eq_getElem?_getD]
    rw [List.getElem?_append_left (by omega)]
theorem qm_hd_drop {a : Nat → Int32} {l : List Int32} (h : qm_hd a l) {p d : Nat} (hd : p + d ≤ l.length) (x : Int32) : qm_cs a x p d = ((l.drop p).take d).count x := by
  induction d with
  | zero => simp [qm_cs]
  | succ d ih =>
    have hlt : p + d < l.length := by omega
    rw [List.take_succ, List.count_append, ← ih (by omega)]
    have e : (l.drop p)[d]? = some (a (p + d)) := by
      rw [List.getElem?_drop, List.getElem?_eq_getElem hlt, h _ hlt]
      simp [List.getD_eq_getElem?_getD, hlt]
    rw [e, show qm_cs a x p (d + 1) = if a (p + d) = x then qm_cs a x p d + 1 else qm_cs a x p d from rfl]
    by_cases q : a (p + d) = x
    · simp [q]
    · simp [q]
theorem qm_hd_cs {a : Nat → Int32} {l : List Int32} (h : qm_hd a l) {p : Nat} (hp : p ≤ l.length) (x : Int32) : qm_cs a x p (l.length - p) = (l.drop p).count x := by
  rw [qm_hd_drop h (by omega), List.take_of_length_le (by simp)]
theorem qm_hd_at {a : Nat → Int32} {l : List Int32} (h : qm_hd a l) {p : Nat} (hp : p < l.length) : a p ∈ l := by
  rw [h p hp]
  simp only [List.getD_eq_getElem?_getD, List.getElem?_eq_getElem hp, Option.getD_some]
  exact List.getElem_mem hp
theorem qm_2nI {c : Nat} : 2 * nI c = nI (2 * c) := by rw [← pk_mul]; rfl
/-- majorityPlace over a list: a place of a value that stands more often than half the seats, or there is none -/
theorem qm_mp_l {a : Nat → Int32} {l : List Int32} {S : Nat} (h : qm_hd a l) (hl : l.length < 1000) (hS : S < 1000) :
    (qm_mp a l.length (nI S) = -1 ∧ ∀ x, x ∈ l → 2 * l.count x ≤ S) ∨ ∃ k, k < l.length ∧ qm_mp a l.length (nI S) = nI k ∧ S < 2 * l.count (a k) := by
  have cl : ∀ x : Int32, l.count x ≤ l.length := fun x => List.count_le_length
  rcases qm_mp_or a l.length (nI S) with ⟨e, hb⟩ | ⟨k, hk, e, h2⟩
  · refine Or.inl ⟨e, fun x hx => ?_⟩
    obtain ⟨s, t, rfl, hn⟩ := List.append_of_mem hx |> fun ⟨s, t, e⟩ => (show ∃ s t, l = s ++ x :: t ∧ x ∉ s by
      obtain ⟨as, bs, e1, e2⟩ := List.eq_append_cons_of_mem hx
      exact ⟨as, bs, e1, e2⟩)
    have hp : s.length < (s ++ x :: t).length := by simp
    have h1 := hb s.length hp
    have ax : a s.length = x := by rw [h _ hp]; simp
    rw [qm_hd_cs h (Nat.le_of_lt hp), ax, qm_2nI, nI_leI (by have h7 := cl x; have h8 : (List.drop s.length (s ++ x :: t)).count x ≤ (s ++ x :: t).count x := List.Sublist.count_le _ (List.drop_sublist _ _); omega) (by omega)] at h1
    rw [List.drop_left] at h1
    rw [List.count_append, List.count_eq_zero_of_not_mem hn]
    omega
  · refine Or.inr ⟨k, hk, e, ?_⟩
    have hle : (l.drop k).count (a k) ≤ l.count (a k) := List.Sublist.count_le _ (List.drop_sublist k l)
    have c2 := cl (a k)
    rw [qm_hd_cs h (Nat.le_of_lt hk), qm_2nI, nI_ltI (by omega) (by omega)] at h2
    omega
/-- the value that stands in more than half of the places, 0 if none does -/
def qm_maj (l : List Int32) : Int32 := (l.find? (fun x => decide (l.length < 2 * l.count x))).getD 0
theorem qm_count2 {l : List Int32} {x y : Int32} (h : ¬ x = y) : l.count x + l.count y ≤ l.length := by
  induction l with
  | nil => simp
  | cons b l ih =>
    rw [List.count_cons, List.count_cons, List.length_cons]
    by_cases h1 : b = x
    · have h2 : ¬ b = y := fun q => h (h1.symm.trans q)
      simp [h1, h]
      omega
    · by_cases h2 : b = y
      · simp [h1, h2]
        have : ¬ y = x := fun q => h q.symm
        simp [this]
        omega
      · simp [h1, h2]
        omega
theorem qm_maj_in {l : List Int32} {x : Int32} (h : l.length < 2 * l.count x) : qm_maj l = x := by
  unfold qm_maj
  cases e : l.find? (fun x => decide (l.length < 2 * l.count x)) with
  | none =>
    have hx : x ∈ l := List.count_pos_iff.mp (by omega)
    have := List.find?_eq_none.mp e x hx
    simp at this
    omega
  | some z =>
    have hz := List.find?_some e
    simp only [decide_eq_true_eq] at hz
    show z = x
    rcases Classical.em (x = z) with q | q
    · exact q.symm
    · have := qm_count2 (l := l) q
      omega
theorem qm_maj_no {l : List Int32} (h : ∀ x, x ∈ l → 2 * l.count x ≤ l.length) : qm_maj l = 0 := by
  unfold qm_maj
  rw [List.find?_eq_none.mpr]
  · rfl
  · intro x hx
    have := h x hx
    simp
    omega
/-- what the class makes of its list -/
theorem qm_mp_maj {a : Nat → Int32} {l : List Int32} (h : qm_hd a l) (hl : l.length < 1000) :
    (qm_mp a l.length (nI l.length) = -1 ∧ qm_maj l = 0) ∨ ∃ k, k < l.length ∧ qm_mp a l.length (nI l.length) = nI k ∧ qm_maj l = a k := by
  rcases qm_mp_l h hl hl with ⟨e, hb⟩ | ⟨k, hk, e, h2⟩
  · exact Or.inl ⟨e, qm_maj_no hb⟩
  · exact Or.inr ⟨k, hk, e, qm_maj_in h2⟩
end
section
/-! messages and paths of the class -/
/-- what node i gets when j sends it x, by the sets of the frame -/
def qm_gt (v : qa_M) (j : Nat) (x : Int32) (i : Nat) : Int32 := if qm_in (v 2 i 12) (nI j) = true then qm_says (v 2 j 9) (v 2 j 10) x (nI i) (v 8 0 6) else 0
theorem qm_gt_n {u v : qa_M} (h2 : u 2 = v 2) (h8 : u 8 0 6 = v 8 0 6) : qm_gt u = qm_gt v := by
  funext j x i
  simp only [qm_gt, h2, h8]
/-- a set with one node more -/
def qm_ad (P : Int32) (a : Nat) : Int32 := P ||| (1 <<< (nI a &&& 31))
def qm_S0 (n : Nat) (g : Nat → Int32 → Nat → Int32) (P : Int32) (j : Nat) (x : Int32) (r : Nat) (h : Nat → Int32) : Prop := ∀ i, i < n → qm_in P (nI i) = false → h (r * n + i) = g j x i
def qm_S1 (n : Nat) (g : Nat → Int32 → Nat → Int32) (P : Int32) (j : Nat) (x : Int32) (r : Nat) (h : Nat → Int32) : Prop := qm_S0 n g P j x r h ∧ ∀ a, a < n → qm_in P (nI a) = false → qm_S0 n g (qm_ad P a) a (g j x a) (r * n + 1 + a) h
def qm_S2 (n : Nat) (g : Nat → Int32 → Nat → Int32) (P : Int32) (j : Nat) (x : Int32) (r : Nat) (h : Nat → Int32) : Prop := qm_S0 n g P j x r h ∧ ∀ a, a < n → qm_in P (nI a) = false → qm_S1 n g (qm_ad P a) a (g j x a) (r * n + 1 + a) h
def qm_T0 (n r q : Nat) : Prop := ∃ i, i < n ∧ q = r * n + i
def qm_T1 (n r q : Nat) : Prop := qm_T0 n r q ∨ ∃ a, a < n ∧ qm_T0 n (r * n + 1 + a) q
def qm_T2 (n r q : Nat) : Prop := qm_T0 n r q ∨ ∃ a, a < n ∧ qm_T1 n (r * n + 1 + a) q
theorem qm_S0_n {n : Nat} {g : Nat → Int32 → Nat → Int32} {P : Int32} {j : Nat} {x : Int32} {r : Nat} {h h' : Nat → Int32} (H : qm_S0 n g P j x r h) (hn : ∀ q, qm_T0 n r q → h' q = h q) : qm_S0 n g P j x r h' := fun i hi hP => (hn _ ⟨i, hi, rfl⟩).trans (H i hi hP)
theorem qm_S1_n {n : Nat} {g : Nat → Int32 → Nat → Int32} {P : Int32} {j : Nat} {x : Int32} {r : Nat} {h h' : Nat → Int32} (H : qm_S1 n g P j x r h) (hn : ∀ q, qm_T1 n r q → h' q = h q) : qm_S1 n g P j x r h' :=
  ⟨qm_S0_n H.1 (fun q hq => hn q (Or.inl hq)), fun a ha hP => qm_S0_n (H.2 a ha hP) (fun q hq => hn q (Or.inr ⟨a, ha, hq⟩))⟩
theorem qm_T0_d {n r q : Nat} (h : qm_T0 n r q) : q / n = r := by
  obtain ⟨i, hi, rfl⟩ := h
  rw [Nat.mul_comm, Nat.mul_add_div (by omega), Nat.div_eq_of_lt hi, Nat.add_zero]
theorem qm_n47 {n : Nat} (h4 : 4 ≤ n) (h7 : n ≤ 7) : n = 4 ∨ n = 5 ∨ n = 6 ∨ n = 7 := by omega
/-- the rows of the subtrees are apart -/
theorem qm_T_a {n r a q : Nat} (h4 : 4 ≤ n) (h7 : n ≤ 7) (h : qm_T0 n r q) : ¬ qm_T0 n (r * n + 1 + a) q := by
  intro h2
  have e1 := qm_T0_d h
  have e2 := qm_T0_d h2
  rcases qm_n47 h4 h7 with rfl | rfl | rfl | rfl <;> omega
theorem qm_T_b {n r a b q : Nat} (hab : a ≠ b) (h : qm_T0 n (r * n + 1 + a) q) : ¬ qm_T0 n (r * n + 1 + b) q := by
  intro h2
  have e1 := qm_T0_d h
  have e2 := qm_T0_d h2
  omega
theorem qm_T_c {n a q : Nat} (h4 : 4 ≤ n) (h7 : n ≤ 7) (h : qm_T0 n 0 q) : ¬ qm_T1 n (0 * n + 1 + a) q := by
  intro h2
  have e1 := qm_T0_d h
  rcases h2 with h2 | ⟨b, hb, h2⟩
  · have e2 := qm_T0_d h2
    omega
  · have e2 := qm_T0_d h2
    omega
theorem qm_T_d {n a b q : Nat} (h4 : 4 ≤ n) (h7 : n ≤ 7) (ha : a < n) (hb : b < n) (hab : a ≠ b) (h : qm_T1 n (0 * n + 1 + a) q) : ¬ qm_T1 n (0 * n + 1 + b) q := by
  intro h2
  rcases h with h | ⟨c, hc, h⟩ <;> rcases h2 with h2 | ⟨d, hd, h2⟩ <;> have e1 := qm_T0_d h <;> have e2 := qm_T0_d h2 <;> rcases qm_n47 h4 h7 with rfl | rfl | rfl | rfl <;> omega
/-- the places lie in held -/
theorem qm_hbd {y : qa_L} (h : qa_ok y) : qa_n y ≤ qa_h y ∧ (1 ≤ qa_m y → (qa_n y + 1) * qa_n y ≤ qa_h y) ∧ (2 ≤ qa_m y → ((qa_n y + 1) * qa_n y + 1) * qa_n y ≤ qa_h y) := by
  obtain ⟨-, -, h1, h2, h3, -, -⟩ := h
  have hm : qa_m y = 0 ∨ qa_m y = 1 ∨ qa_m y = 2 := by omega
  unfold qa_h
  rcases hm with e | e | e <;> rcases qm_n47 h1 h2 with f | f | f | f <;> rw [e, f] <;> refine ⟨by decide, by decide, by decide⟩
/-- the greatest that a node bears -/
def qm_bear (m : Nat) (x : Int32) : Int32 := qm_min (nI m) ((qm_bc x - 1) / 3)
def qm_rds (m : Nat) (f : Nat → Int32) : Nat → Int32
  | 0 => 0
  | k + 1 => qm_max (qm_rds m f k) (qm_bear m (f k))
theorem qa_up_up {v : qa_M} {k i f : Nat} {a b : Int32} : qa_up (qa_up v k i f a) k i f b = qa_up v k i f b := by
  funext k' i' f'
  simp only [qa_up]
  split <;> rfl
end
section
set_option maxHeartbeats 4000000 in
set_option maxRecDepth 100000 in
theorem c_VF_majorityPlace_21 (l : Launch) (y : qa_L) (v : qa_M) (sz : Nat) (st : Int32) (hs : sz ≤ qa_n y) : qa_Pu l y_VF_majorityPlace b_VF_majorityPlace 6 (some .int) 0 [.ref (qa_a y 21 0), .int (nI sz), .int st] (qa_W y v) (qm_mp (v 21 0) sz st) := by
  refine qa_ofPu (plainFor_of_name (by decide)) (Nat.le_of_ble_eq_true rfl) ?_
  intro p e s m below meth c ls F hr hlocks hW hl
  have E : qa_E p m c b_VF_majorityPlace 6 s _ "VotedFrames" y := ⟨F, hW.2⟩
  have hC : qa_C y v s s.heap [] := ⟨hW.1, va_S.rf⟩
  have hx := F.1
  have hb := F.2.1
  have hown : s.vm.findClass "VotedFrames" = some m.cls := F.2.2.2.1
  have hts := F.2.2.2.2
  have hn4 : 4 ≤ qa_n y := E.2.1.2.2.1
  have hn7 : qa_n y ≤ 7 := E.2.1.2.2.2.1
  have hl : lv_has ls 6 [(0, .ref (qa_a y 21 0)), (1, .int (nI sz)), (2, .int st)] := hl
  have loop : ∀ (d k : Nat) (ls : Array Slot), k + d = sz → (∀ p, p < k → 2 * nI (qm_cs (v 21 0) (v 21 0 p) p (sz - p)) ≤ st) → lv_has ls 6 [(3, .int (nI k)), (0, .ref (qa_a y 21 0)), (1, .int (nI sz)), (2, .int st)] → W p l e (qa_R 0) s m [.ref (qa_a y 21 0), .int (nI sz), .int st].toArray below meth c s.heap [] 0 0 (MQ below (QcRead (qm_mp (v 21 0) sz st)) [.ref (qa_a y 21 0), .int (nI sz), .int st].toArray s 0 0 (fun _ => False)) (F0 m 2 ls []) := by
    intro d
    induction d with
    | zero =>
      intro k ls hkd hI hl
      obtain rfl : sz = k := by omega
      refine lv_iload_n hx hb d_VF_majorityPlace_2 rfl (lv_at hl 0 rfl) ?_
      refine lv_iload_n hx hb d_VF_majorityPlace_3 rfl (lv_at hl 2 rfl) ?_
      refine lv_icmp_ge hx hb d_VF_majorityPlace_4 rfl (fun _ => ?_) (fun h9 => absurd (nI_le (Nat.le_refl _) (by omega)) h9)
      refine lv_iconst (v := -1) hx hb d_VF_majorityPlace_54 (by decide) ?_
      exact qa_iret hx hb hr hlocks ((qm_mp_no hI).symm) d_VF_majorityPlace_55
    | succ d ih =>
      intro k ls hkd hI hl
      have hk : k < sz := by omega
      have hkn : k < qa_n y := by omega
      refine lv_iload_n hx hb d_VF_majorityPlace_2 rfl (lv_at hl 0 rfl) ?_
      refine lv_iload_n hx hb d_VF_majorityPlace_3 rfl (lv_at hl 2 rfl) ?_
      refine lv_icmp_ge hx hb d_VF_majorityPlace_4 rfl (fun h9 => absurd h9 (nI_ge hk (by omega))) (fun _ => ?_)
      refine lv_iconst (v := 0) hx hb d_VF_majorityPlace_7 (by decide) ?_
      refine lv_istore hx hb d_VF_majorityPlace_8 hl (by decide) rfl (fun ls hl => ?_)
      have hl : lv_has ls 6 [(4, .int 0), (3, .int (nI k)), (0, .ref (qa_a y 21 0)), (1, .int (nI sz)), (2, .int st)] := hl
      refine lv_iload_n hx hb d_VF_majorityPlace_10 rfl (lv_at hl 1 rfl) ?_
      refine lv_istore hx hb d_VF_majorityPlace_11 hl (by decide) rfl (fun ls hl => ?_)
      have hl : lv_has ls 6 [(5, .int (nI k)), (4, .int 0), (3, .int (nI k)), (0, .ref (qa_a y 21 0)), (1, .int (nI sz)), (2, .int st)] := hl
      have hI1 := hI
      have loop2 : ∀ (d q : Nat) (ls : Array Slot), q + d = sz → (k ≤ q) → lv_has ls 6 [(5, .int (nI q)), (4, .int (nI (qm_cs (v 21 0) (v 21 0 k) k (q - k)))), (3, .int (nI k)), (0, .ref (qa_a y 21 0)), (1, .int (nI sz)), (2, .int st)] → W p l e (qa_R 0) s m [.ref (qa_a y 21 0), .int (nI sz), .int st].toArray below meth c s.heap [] 0 0 (MQ below (QcRead (qm_mp (v 21 0) sz st)) [.ref (qa_a y 21 0), .int (nI sz), .int st].toArray s 0 0 (fun _ => False)) (F0 m 13 ls []) := by
        intro d
        induction d with
        | zero =>
          intro q ls hkd hI hl
          obtain rfl : sz = q := by omega
          refine lv_iload hx hb d_VF_majorityPlace_13 (lv_at hl 0 rfl) ?_
          refine lv_iload_n hx hb d_VF_majorityPlace_15 rfl (lv_at hl 4 rfl) ?_
          refine lv_icmp_ge hx hb d_VF_majorityPlace_16 rfl (fun _ => ?_) (fun h9 => absurd (nI_le (Nat.le_refl _) (by omega)) h9)
          refine lv_iconst (v := 2) hx hb d_VF_majorityPlace_38 (by decide) ?_
          refine lv_iload hx hb d_VF_majorityPlace_39 (lv_at hl 1 rfl) ?_
          refine lv_imul hx hb d_VF_majorityPlace_41 ?_
          refine lv_iload_n hx hb d_VF_majorityPlace_42 rfl (lv_at hl 5 rfl) ?_
          refine lv_icmp_le hx hb d_VF_majorityPlace_43 rfl (fun h43 => ?_) (fun h43 => ?_)
          · refine lv_iinc (v := nI (k + 1)) hx hb d_VF_majorityPlace_48 hl (k := 2) rfl (nI_1 k) (by decide) rfl (fun ls hl => ?_)
            have hl : lv_has ls 6 [(3, .int (nI (k + 1))), (5, .int (nI sz)), (4, .int (nI (qm_cs (v 21 0) (v 21 0 k) k (sz - k)))), (0, .ref (qa_a y 21 0)), (1, .int (nI sz)), (2, .int st)] := hl
            refine lv_goto hx hb d_VF_majorityPlace_51 rfl ?_
            exact ih (k + 1) ls (by omega) (lt_s hI1 h43) (lv_sub hl [0, 3, 4, 5] rfl)
          · refine lv_iload_n hx hb d_VF_majorityPlace_46 rfl (lv_at hl 2 rfl) ?_
            exact qa_iret hx hb hr hlocks ((qm_mp_at hk hI1 (qm_lt h43)).symm) d_VF_majorityPlace_47
        | succ d ih2 =>
          intro q ls hkd hI hl
          have hq : q < sz := by omega
          have hqn : q < qa_n y := by omega
          refine lv_iload hx hb d_VF_majorityPlace_13 (lv_at hl 0 rfl) ?_
          refine lv_iload_n hx hb d_VF_majorityPlace_15 rfl (lv_at hl 4 rfl) ?_
          refine lv_icmp_ge hx hb d_VF_majorityPlace_16 rfl (fun h9 => absurd h9 (nI_ge hq (by omega))) (fun _ => ?_)
          refine lv_aload_n hx hb d_VF_majorityPlace_19 rfl (lv_at hl 3 rfl) ?_
          refine lv_iload hx hb d_VF_majorityPlace_20 (lv_at hl 0 rfl) ?_
          refine qa_ild (k := 21) (i := 0) (j := q) E hC Nat.one_pos rfl rfl rfl hqn d_VF_majorityPlace_22 ?_
          refine lv_aload_n hx hb d_VF_majorityPlace_23 rfl (lv_at hl 3 rfl) ?_
          refine lv_iload_n hx hb d_VF_majorityPlace_24 rfl (lv_at hl 2 rfl) ?_
          refine qa_ild (k := 21) (i := 0) (j := k) E hC Nat.one_pos rfl rfl rfl hkn d_VF_majorityPlace_25 ?_
          refine lv_icmp_ne hx hb d_VF_majorityPlace_26 rfl (fun h26 => ?_) (fun h26 => ?_)
          · refine lv_iinc (v := nI (q + 1)) hx hb d_VF_majorityPlace_32 hl (k := 0) rfl (nI_1 q) (by decide) rfl (fun ls hl => ?_)
            have hl : lv_has ls 6 [(5, .int (nI (q + 1))), (4, .int (nI (qm_cs (v 21 0) (v 21 0 k) k (q - k)))), (3, .int (nI k)), (0, .ref (qa_a y 21 0)), (1, .int (nI sz)), (2, .int st)] := hl
            refine lv_goto hx hb d_VF_majorityPlace_35 rfl ?_
            have e9 : q + 1 - k = (q - k) + 1 := by omega
            have e8 : k + (q - k) = q := by omega
            have e5 : qm_cs (v 21 0) (v 21 0 k) k (q + 1 - k) = qm_cs (v 21 0) (v 21 0 k) k (q - k) := by rw [e9, qm_cs, e8, if_neg h26]
            refine ih2 (q + 1) ls (by omega) (by omega) ?_
            rw [e5]
            exact lv_sub hl [0, 1, 2, 3, 4, 5] rfl
          · refine lv_iinc (v := nI ((qm_cs (v 21 0) (v 21 0 k) k (q - k)) + 1)) hx hb d_VF_majorityPlace_29 hl (k := 1) rfl (nI_1 (qm_cs (v 21 0) (v 21 0 k) k (q - k))) (by decide) rfl (fun ls hl => ?_)
            have hl : lv_has ls 6 [(4, .int (nI ((qm_cs (v 21 0) (v 21 0 k) k (q - k)) + 1))), (5, .int (nI q)), (3, .int (nI k)), (0, .ref (qa_a y 21 0)), (1, .int (nI sz)), (2, .int st)] := hl
            refine lv_iinc (v := nI (q + 1)) hx hb d_VF_majorityPlace_32 hl (k := 1) rfl (nI_1 q) (by decide) rfl (fun ls hl => ?_)
            have hl : lv_has ls 6 [(5, .int (nI (q + 1))), (4, .int (nI ((qm_cs (v 21 0) (v 21 0 k) k (q - k)) + 1))), (3, .int (nI k)), (0, .ref (qa_a y 21 0)), (1, .int (nI sz)), (2, .int st)] := hl
            refine lv_goto hx hb d_VF_majorityPlace_35 rfl ?_
            have e9 : q + 1 - k = (q - k) + 1 := by omega
            have e8 : k + (q - k) = q := by omega
            have e5 : qm_cs (v 21 0) (v 21 0 k) k (q + 1 - k) = qm_cs (v 21 0) (v 21 0 k) k (q - k) + 1 := by rw [e9, qm_cs, e8, if_pos h26]
            refine ih2 (q + 1) ls (by omega) (by omega) ?_
            rw [e5]
            exact lv_sub hl [0, 1, 2, 3, 4, 5] rfl
      refine loop2 (sz - k) k ls (by omega) (Nat.le_refl _) ?_
      rw [Nat.sub_self]
      exact lv_sub hl [0, 1, 2, 3, 4, 5] rfl
  refine lv_iconst (v := 0) hx hb d_VF_majorityPlace_0 (by decide) ?_
  refine lv_istore_n hx hb d_VF_majorityPlace_1 rfl hl (by decide) rfl (fun ls hl => ?_)
  have hl : lv_has ls 6 [(3, .int 0), (0, .ref (qa_a y 21 0)), (1, .int (nI sz)), (2, .int st)] := hl
  exact loop sz 0 ls (by omega) lt_0 (lv_sub hl [0, 1, 2, 3] rfl)

set_option maxHeartbeats 4000000 in
set_option maxRecDepth 100000 in
theorem c_VF_majorityPlace_11 (l : Launch) (y : qa_L) (v : qa_M) (L : Nat) (sz : Nat) (st : Int32) (hL : L < qa_m y + 1) (hs : sz ≤ qa_n y) : qa_Pu l y_VF_majorityPlace b_VF_majorityPlace 6 (some .int) 0 [.ref (qa_a y 11 L), .int (nI sz), .int st] (qa_W y v) (qm_mp (v 11 L) sz st) := by
  refine qa_ofPu (plainFor_of_name (by decide)) (Nat.le_of_ble_eq_true rfl) ?_
  intro p e s m below meth c ls F hr hlocks hW hl
  have E : qa_E p m c b_VF_majorityPlace 6 s _ "VotedFrames" y := ⟨F, hW.2⟩
  have hC : qa_C y v s s.heap [] := ⟨hW.1, va_S.rf⟩
  have hx := F.1
  have hb := F.2.1
  have hown : s.vm.findClass "VotedFrames" = some m.cls := F.2.2.2.1
  have hts := F.2.2.2.2
  have hn4 : 4 ≤ qa_n y := E.2.1.2.2.1
  have hn7 : qa_n y ≤ 7 := E.2.1.2.2.2.1
  have hl : lv_has ls 6 [(0, .ref (qa_a y 11 L)), (1, .int (nI sz)), (2, .int st)] := hl
  have loop : ∀ (d k : Nat) (ls : Array Slot), k + d = sz → (∀ p, p < k → 2 * nI (qm_cs (v 11 L) (v 11 L p) p (sz - p)) ≤ st) → lv_has ls 6 [(3, .int (nI k)), (0, .ref (qa_a y 11 L)), (1, .int (nI sz)), (2, .int st)] → W p l e (qa_R 0) s m [.ref (qa_a y 11 L), .int (nI sz), .int st].toArray below meth c s.heap [] 0 0 (MQ below (QcRead (qm_mp (v 11 L) sz st)) [.ref (qa_a y 11 L), .int (nI sz), .int st].toArray s 0 0 (fun _ => False)) (F0 m 2 ls []) := by
    intro d
    induction d with
    | zero =>
      intro k ls hkd hI hl
      obtain rfl : sz = k := by omega
      refine lv_iload_n hx hb d_VF_majorityPlace_2 rfl (lv_at hl 0 rfl) ?_
      refine lv_iload_n hx hb d_VF_majorityPlace_3 rfl (lv_at hl 2 rfl) ?_
      refine lv_icmp_ge hx hb d_VF_majorityPlace_4 rfl (fun _ => ?_) (fun h9 => absurd (nI_le (Nat.le_refl _) (by omega)) h9)
      refine lv_iconst (v := -1) hx hb d_VF_majorityPlace_54 (by decide) ?_
      exact qa_iret hx hb hr hlocks ((qm_mp_no hI).symm) d_VF_majorityPlace_55
    | succ d ih =>
      intro k ls hkd hI hl
      have hk : k < sz := by omega
      have hkn : k < qa_n y := by omega
      refine lv_iload_n hx hb d_VF_majorityPlace_2 rfl (lv_at hl 0 rfl) ?_
      refine lv_iload_n hx hb d_VF_majorityPlace_3 rfl (lv_at hl 2 rfl) ?_
      refine lv_icmp_ge hx hb d_VF_majorityPlace_4 rfl (fun h9 => absurd h9 (nI_ge hk (by omega))) (fun _ => ?_)
      refine lv_iconst (v := 0) hx hb d_VF_majorityPlace_7 (by decide) ?_
      refine lv_istore hx hb d_VF_majorityPlace_8 hl (by decide) rfl (fun ls hl => ?_)
      have hl : lv_has ls 6 [(4, .int 0), (3, .int (nI k)), (0, .ref (qa_a y 11 L)), (1, .int (nI sz)), (2, .int st)] := hl
      refine lv_iload_n hx hb d_VF_majorityPlace_10 rfl (lv_at hl 1 rfl) ?_
      refine lv_istore hx hb d_VF_majorityPlace_11 hl (by decide) rfl (fun ls hl => ?_)
      have hl : lv_has ls 6 [(5, .int (nI k)), (4, .int 0), (3, .int (nI k)), (0, .ref (qa_a y 11 L)), (1, .int (nI sz)), (2, .int st)] := hl
      have hI1 := hI
      have loop2 : ∀ (d q : Nat) (ls : Array Slot), q + d = sz → (k ≤ q) → lv_has ls 6 [(5, .int (nI q)), (4, .int (nI (qm_cs (v 11 L) (v 11 L k) k (q - k)))), (3, .int (nI k)), (0, .ref (qa_a y 11 L)), (1, .int (nI sz)), (2, .int st)] → W p l e (qa_R 0) s m [.ref (qa_a y 11 L), .int (nI sz), .int st].toArray below meth c s.heap [] 0 0 (MQ below (QcRead (qm_mp (v 11 L) sz st)) [.ref (qa_a y 11 L), .int (nI sz), .int st].toArray s 0 0 (fun _ => False)) (F0 m 13 ls []) := by
        intro d
        induction d with
        | zero =>
          intro q ls hkd hI hl
          obtain rfl : sz = q := by omega
          refine lv_iload hx hb d_VF_majorityPlace_13 (lv_at hl 0 rfl) ?_
          refine lv_iload_n hx hb d_VF_majorityPlace_15 rfl (lv_at hl 4 rfl) ?_
          refine lv_icmp_ge hx hb d_VF_majorityPlace_16 rfl (fun _ => ?_) (fun h9 => absurd (nI_le (Nat.le_refl _) (by omega)) h9)
          refine lv_iconst (v := 2) hx hb d_VF_majorityPlace_38 (by decide) ?_
          refine lv_iload hx hb d_VF_majorityPlace_39 (lv_at hl 1 rfl) ?_
          refine lv_imul hx hb d_VF_majorityPlace_41 ?_
          refine lv_iload_n hx hb d_VF_majorityPlace_42 rfl (lv_at hl 5 rfl) ?_
          refine lv_icmp_le hx hb d_VF_majorityPlace_43 rfl (fun h43 => ?_) (fun h43 => ?_)
          · refine lv_iinc (v := nI (k + 1)) hx hb d_VF_majorityPlace_48 hl (k := 2) rfl (nI_1 k) (by decide) rfl (fun ls hl => ?_)
            have hl : lv_has ls 6 [(3, .int (nI (k + 1))), (5, .int (nI sz)), (4, .int (nI (qm_cs (v 11 L) (v 11 L k) k (sz - k)))), (0, .ref (qa_a y 11 L)), (1, .int (nI sz)), (2, .int st)] := hl
            refine lv_goto hx hb d_VF_majorityPlace_51 rfl ?_
            exact ih (k + 1) ls (by omega) (lt_s hI1 h43) (lv_sub hl [0, 3, 4, 5] rfl)
          · refine lv_iload_n hx hb d_VF_majorityPlace_46 rfl (lv_at hl 2 rfl) ?_
            exact qa_iret hx hb hr hlocks ((qm_mp_at hk hI1 (qm_lt h43)).symm) d_VF_majorityPlace_47
        | succ d ih2 =>
          intro q ls hkd hI hl
          have hq : q < sz := by omega
          have hqn : q < qa_n y := by omega
          refine lv_iload hx hb d_VF_majorityPlace_13 (lv_at hl 0 rfl) ?_
          refine lv_iload_n hx hb d_VF_majorityPlace_15 rfl (lv_at hl 4 rfl) ?_
          refine lv_icmp_ge hx hb d_VF_majorityPlace_16 rfl (fun h9 => absurd h9 (nI_ge hq (by omega))) (fun _ => ?_)
          refine lv_aload_n hx hb d_VF_majorityPlace_19 rfl (lv_at hl 3 rfl) ?_
          refine lv_iload hx hb d_VF_majorityPlace_20 (lv_at hl 0 rfl) ?_
          refine qa_ild (k := 11) (i := L) (j := q) E hC hL rfl rfl rfl hqn d_VF_majorityPlace_22 ?_
          refine lv_aload_n hx hb d_VF_majorityPlace_23 rfl (lv_at hl 3 rfl) ?_
          refine lv_iload_n hx hb d_VF_majorityPlace_24 rfl (lv_at hl 2 rfl) ?_
          refine qa_ild (k := 11) (i := L) (j := k) E hC hL rfl rfl rfl hkn d_VF_majorityPlace_25 ?_
          refine lv_icmp_ne hx hb d_VF_majorityPlace_26 rfl (fun h26 => ?_) (fun h26 => ?_)
          · refine lv_iinc (v := nI (q + 1)) hx hb d_VF_majorityPlace_32 hl (k := 0) rfl (nI_1 q) (by decide) rfl (fun ls hl => ?_)
            have hl : lv_has ls 6 [(5, .int (nI (q + 1))), (4, .int (nI (qm_cs (v 11 L) (v 11 L k) k (q - k)))), (3, .int (nI k)), (0, .ref (qa_a y 11 L)), (1, .int (nI sz)), (2, .int st)] := hl
            refine lv_goto hx hb d_VF_majorityPlace_35 rfl ?_
            have e9 : q + 1 - k = (q - k) + 1 := by omega
            have e8 : k + (q - k) = q := by omega
            have e5 : qm_cs (v 11 L) (v 11 L k) k (q + 1 - k) = qm_cs (v 11 L) (v 11 L k) k (q - k) := by rw [e9, qm_cs, e8, if_neg h26]
            refine ih2 (q + 1) ls (by omega) (by omega) ?_
            rw [e5]
            exact lv_sub hl [0, 1, 2, 3, 4, 5] rfl
          · refine lv_iinc (v := nI ((qm_cs (v 11 L) (v 11 L k) k (q - k)) + 1)) hx hb d_VF_majorityPlace_29 hl (k := 1) rfl (nI_1 (qm_cs (v 11 L) (v 11 L k) k (q - k))) (by decide) rfl (fun ls hl => ?_)
            have hl : lv_has ls 6 [(4, .int (nI ((qm_cs (v 11 L) (v 11 L k) k (q - k)) + 1))), (5, .int (nI q)), (3, .int (nI k)), (0, .ref (qa_a y 11 L)), (1, .int (nI sz)), (2, .int st)] := hl
            refine lv_iinc (v := nI (q + 1)) hx hb d_VF_majorityPlace_32 hl (k := 1) rfl (nI_1 q) (by decide) rfl (fun ls hl => ?_)
            have hl : lv_has ls 6 [(5, .int (nI (q + 1))), (4, .int (nI ((qm_cs (v 11 L) (v 11 L k) k (q - k)) + 1))), (3, .int (nI k)), (0, .ref (qa_a y 11 L)), (1, .int (nI sz)), (2, .int st)] := hl
            refine lv_goto hx hb d_VF_majorityPlace_35 rfl ?_
            have e9 : q + 1 - k = (q - k) + 1 := by omega
            have e8 : k + (q - k) = q := by omega
            have e5 : qm_cs (v 11 L) (v 11 L k) k (q + 1 - k) = qm_cs (v 11 L) (v 11 L k) k (q - k) + 1 := by rw [e9, qm_cs, e8, if_pos h26]
            refine ih2 (q + 1) ls (by omega) (by omega) ?_
            rw [e5]
            exact lv_sub hl [0, 1, 2, 3, 4, 5] rfl
      refine loop2 (sz - k) k ls (by omega) (Nat.le_refl _) ?_
      rw [Nat.sub_self]
      exact lv_sub hl [0, 1, 2, 3, 4, 5] rfl
  refine lv_iconst (v := 0) hx hb d_VF_majorityPlace_0 (by decide) ?_
  refine lv_istore_n hx hb d_VF_majorityPlace_1 rfl hl (by decide) rfl (fun ls hl => ?_)
  have hl : lv_has ls 6 [(3, .int 0), (0, .ref (qa_a y 11 L)), (1, .int (nI sz)), (2, .int st)] := hl
  exact loop sz 0 ls (by omega) lt_0 (lv_sub hl [0, 1, 2, 3] rfl)
end
section
set_option maxHeartbeats 4000000 in
set_option maxRecDepth 100000 in
theorem c_RL_follow (l : Launch) (y : qa_L) (v : qa_M) (r j : Int32) : qa_Pu l y_RL_follow b_RL_follow 3 (some .int) 0 [.ref (qa_a y 8 0), .int r, .int j] (qa_W y v) (r * nI (qa_n y) + 1 + j) := by
  refine qa_ofPu (plainFor_of_name (by decide)) (Nat.le_of_ble_eq_true rfl) ?_
  intro p e s m below meth c ls F hr hlocks hW hl
  have E : qa_E p m c b_RL_follow 3 s _ "VotedFrames$Relay" y := ⟨F, hW.2⟩
  have hC : qa_C y v s s.heap [] := ⟨hW.1, va_S.rf⟩
  have hx := F.1
  have hb := F.2.1
  have hown : s.vm.findClass "VotedFrames$Relay" = some m.cls := F.2.2.2.1
  have hts := F.2.2.2.2
  have hn4 : 4 ≤ qa_n y := E.2.1.2.2.1
  have hn7 : qa_n y ≤ 7 := E.2.1.2.2.2.1
  have hl : lv_has ls 3 [(0, .ref (qa_a y 8 0)), (1, .int r), (2, .int j)] := hl
  refine lv_iload_n hx hb d_RL_follow_0 rfl (lv_at hl 1 rfl) ?_
  refine lv_aload_n hx hb d_RL_follow_1 rfl (lv_at hl 0 rfl) ?_
  refine qa_get (k := 8) (i := 0) (f := 0) (val := .ref (qa_a y 1 0)) E hC Nat.one_pos rfl rfl (by decide) f_RL_7 rfl rfl d_RL_follow_2 ?_
  refine qa_len (k := 1) (i := 0) E hC Nat.one_pos rfl (v0 := nI (qa_n y)) rfl d_RL_follow_5 ?_
  refine lv_imul hx hb d_RL_follow_6 ?_
  refine lv_iconst (v := 1) hx hb d_RL_follow_7 (by decide) ?_
  refine lv_iadd hx hb d_RL_follow_8 ?_
  refine lv_iload_n hx hb d_RL_follow_9 rfl (lv_at hl 2 rfl) ?_
  refine lv_iadd hx hb d_RL_follow_10 ?_
  exact qa_iret hx hb hr hlocks rfl d_RL_follow_11

set_option maxHeartbeats 4000000 in
set_option maxRecDepth 100000 in
theorem c_RL_placeOf (l : Launch) (y : qa_L) (v : qa_M) (r j : Int32) : qa_Pu l y_RL_placeOf b_RL_placeOf 3 (some .int) 0 [.ref (qa_a y 8 0), .int r, .int j] (qa_W y v) (r * nI (qa_n y) + j) := by
  refine qa_ofPu (plainFor_of_name (by decide)) (Nat.le_of_ble_eq_true rfl) ?_
  intro p e s m below meth c ls F hr hlocks hW hl
  have E : qa_E p m c b_RL_placeOf 3 s _ "VotedFrames$Relay" y := ⟨F, hW.2⟩
  have hC : qa_C y v s s.heap [] := ⟨hW.1, va_S.rf⟩
  have hx := F.1
  have hb := F.2.1
  have hown : s.vm.findClass "VotedFrames$Relay" = some m.cls := F.2.2.2.1
  have hts := F.2.2.2.2
  have hn4 : 4 ≤ qa_n y := E.2.1.2.2.1
  have hn7 : qa_n y ≤ 7 := E.2.1.2.2.2.1
  have hl : lv_has ls 3 [(0, .ref (qa_a y 8 0)), (1, .int r), (2, .int j)] := hl
  refine lv_iload_n hx hb d_RL_placeOf_0 rfl (lv_at hl 1 rfl) ?_
  refine lv_aload_n hx hb d_RL_placeOf_1 rfl (lv_at hl 0 rfl) ?_
  refine qa_get (k := 8) (i := 0) (f := 0) (val := .ref (qa_a y 1 0)) E hC Nat.one_pos rfl rfl (by decide) f_RL_7 rfl rfl d_RL_placeOf_2 ?_
  refine qa_len (k := 1) (i := 0) E hC Nat.one_pos rfl (v0 := nI (qa_n y)) rfl d_RL_placeOf_5 ?_
  refine lv_imul hx hb d_RL_placeOf_6 ?_
  refine lv_iload_n hx hb d_RL_placeOf_7 rfl (lv_at hl 2 rfl) ?_
  refine lv_iadd hx hb d_RL_placeOf_8 ?_
  exact qa_iret hx hb hr hlocks rfl d_RL_placeOf_9

set_option maxHeartbeats 4000000 in
set_option maxRecDepth 100000 in
theorem c_RL_got (l : Launch) (y : qa_L) (v : qa_M) (j i : Nat) (x : Int32) (hj : j < qa_n y) (hi : i < qa_n y) : qa_Pu l y_RL_got b_RL_got 4 (some .int) 1 [.ref (qa_a y 8 0), .int (nI j), .int x, .int (nI i)] (qa_W y v) (qm_gt v j x i) := by
  refine qa_ofPu (plainFor_of_name (by decide)) (Nat.le_of_ble_eq_true rfl) ?_
  intro p e s m below meth c ls F hr hlocks hW hl
  have E : qa_E p m c b_RL_got 4 s _ "VotedFrames$Relay" y := ⟨F, hW.2⟩
  have hC : qa_C y v s s.heap [] := ⟨hW.1, va_S.rf⟩
  have hx := F.1
  have hb := F.2.1
  have hown : s.vm.findClass "VotedFrames$Relay" = some m.cls := F.2.2.2.1
  have hts := F.2.2.2.2
  have hn4 : 4 ≤ qa_n y := E.2.1.2.2.1
  have hn7 : qa_n y ≤ 7 := E.2.1.2.2.2.1
  have hl : lv_has ls 4 [(0, .ref (qa_a y 8 0)), (1, .int (nI j)), (2, .int x), (3, .int (nI i))] := hl
  refine lv_aload_n hx hb d_RL_got_0 rfl (lv_at hl 0 rfl) ?_
  refine qa_get (k := 8) (i := 0) (f := 0) (val := .ref (qa_a y 1 0)) E hC Nat.one_pos rfl rfl (by decide) f_RL_7 rfl rfl d_RL_got_1 ?_
  refine lv_iload_n hx hb d_RL_got_4 rfl (lv_at hl 3 rfl) ?_
  refine qa_ald (k := 1) (i := 0) (j := i) E hC Nat.one_pos rfl rfl rfl rfl rfl hi d_RL_got_5 ?_
  refine qa_get (k := 2) (i := i) (f := 12) (val := .int (v 2 i 12)) E hC hi rfl rfl (by decide) f_RL_67 rfl rfl d_RL_got_6 ?_
  refine lv_iload_n hx hb d_RL_got_9 rfl (lv_at hl 1 rfl) ?_
  refine qa_pN (As := [.int (v 2 i 12), .int (nI j)]) E (c_VF_contains l (v 2 i 12) (nI j)) k_RL_57 (qa_fitR (by decide) (by decide)) rfl hl.1 rfl (Nat.le_of_ble_eq_true rfl) d_RL_got_10 ?_
  refine lv_if_eq hx hb d_RL_got_13 rfl (fun h13 => ?_) (fun h13 => ?_)
  · refine lv_iconst (v := 0) hx hb d_RL_got_34 (by decide) ?_
    exact qa_iret hx hb hr hlocks (by unfold qm_gt; rw [if_neg]; rw [qb_e0 h13]; decide) d_RL_got_35
  · refine lv_aload_n hx hb d_RL_got_16 rfl (lv_at hl 0 rfl) ?_
    refine qa_get (k := 8) (i := 0) (f := 0) (val := .ref (qa_a y 1 0)) E hC Nat.one_pos rfl rfl (by decide) f_RL_7 rfl rfl d_RL_got_17 ?_
    refine lv_iload_n hx hb d_RL_got_20 rfl (lv_at hl 1 rfl) ?_
    refine qa_ald (k := 1) (i := 0) (j := j) E hC Nat.one_pos rfl rfl rfl rfl rfl hj d_RL_got_21 ?_
    refine lv_iload_n hx hb d_RL_got_22 rfl (lv_at hl 2 rfl) ?_
    refine lv_iload_n hx hb d_RL_got_23 rfl (lv_at hl 3 rfl) ?_
    refine lv_aload_n hx hb d_RL_got_24 rfl (lv_at hl 0 rfl) ?_
    refine qa_get (k := 8) (i := 0) (f := 6) (val := .int (v 8 0 6)) E hC Nat.one_pos rfl rfl (by decide) f_RL_26 rfl rfl d_RL_got_25 ?_
    refine qa_pV (k := 2) (i := j) (As := [.int x, .int (nI i), .int (v 8 0 6)]) E hC (c_ND_says l y v j x (nI i) (v 8 0 6) hj) hj rfl rfl k_RL_70 (qa_fitR (by decide) (by decide)) rfl hl.1 rfl (Nat.le_of_ble_eq_true rfl) d_RL_got_28 ?_
    refine lv_goto hx hb d_RL_got_31 rfl ?_
    exact qa_iret hx hb hr hlocks (by unfold qm_gt; rw [if_pos (qb_n0 h13)]) d_RL_got_35

set_option maxHeartbeats 4000000 in
set_option maxRecDepth 100000 in
theorem c_RL_beginFrame (l : Launch) (y : qa_L) (v : qa_M) (f : Int32) : qa_Mv l y_RL_beginFrame b_RL_beginFrame 3 3 [.ref (qa_a y 8 0), .int f] y v (fun u => u = qa_up (qa_up v 8 0 6 f) 8 0 7 (qm_rds (qa_m y) (fun k => v 2 k 11) (qa_n y))) := by
  refine qa_ofMv (plainFor_of_name (by decide)) (Nat.le_of_ble_eq_true rfl) ?_
  intro p e s m below meth c ls E hr hlocks hC hl
  have E : qa_E p m c b_RL_beginFrame 3 s _ "VotedFrames$Relay" y := E
  have F := E.1
  have hx := F.1
  have hb := F.2.1
  have hown : s.vm.findClass "VotedFrames$Relay" = some m.cls := F.2.2.2.1
  have hts := F.2.2.2.2
  have hn4 : 4 ≤ qa_n y := E.2.1.2.2.1
  have hn7 : qa_n y ≤ 7 := E.2.1.2.2.2.1
  have hl : lv_has ls 3 [(0, .ref (qa_a y 8 0)), (1, .int f)] := hl
  have loop : ∀ (d k : Nat) (u : qa_M) (H : Heap) (locs : List Loc) (ls : Array Slot), k + d = qa_n y → qa_C y u s H locs → (u = qa_up (qa_up v 8 0 6 f) 8 0 7 (qm_rds (qa_m y) (fun k => v 2 k 11) k)) → lv_has ls 3 [(2, .int (nI k)), (0, .ref (qa_a y 8 0)), (1, .int f)] → W p l e (qa_R 3) s m [.ref (qa_a y 8 0), .int f].toArray below meth c H locs 0 0 (MQ below (va_Qv (fun u => u = qa_up (qa_up v 8 0 6 f) 8 0 7 (qm_rds (qa_m y) (fun k => v 2 k 11) (qa_n y))) (fun u t => qa_W y u t) (qa_A y)) [.ref (qa_a y 8 0), .int f].toArray s 0 0 (qa_A y)) (F0 m 12 ls []) := by
    intro d
    induction d with
    | zero =>
      intro k u H locs ls hkd hC hI hl
      obtain rfl : qa_n y = k := by omega
      refine lv_iload_n hx hb d_RL_beginFrame_12 rfl (lv_at hl 0 rfl) ?_
      refine lv_aload_n hx hb d_RL_beginFrame_13 rfl (lv_at hl 1 rfl) ?_
      refine qa_get (k := 8) (i := 0) (f := 0) (val := .ref (qa_a y 1 0)) E hC Nat.one_pos rfl rfl (by decide) f_RL_7 rfl rfl d_RL_beginFrame_14 ?_
      refine qa_len (k := 1) (i := 0) E hC Nat.one_pos rfl (v0 := nI (qa_n y)) rfl d_RL_beginFrame_17 ?_
      refine lv_icmp_ge hx hb d_RL_beginFrame_18 rfl (fun _ => ?_) (fun h9 => absurd (nI_le (Nat.le_refl _) (by omega)) h9)
      exact qa_mvret E hC hr hlocks hI d_RL_beginFrame_51
    | succ d ih =>
      intro k u H locs ls hkd hC hI hl
      have hk : k < qa_n y := by omega
      refine lv_iload_n hx hb d_RL_beginFrame_12 rfl (lv_at hl 0 rfl) ?_
      refine lv_aload_n hx hb d_RL_beginFrame_13 rfl (lv_at hl 1 rfl) ?_
      refine qa_get (k := 8) (i := 0) (f := 0) (val := .ref (qa_a y 1 0)) E hC Nat.one_pos rfl rfl (by decide) f_RL_7 rfl rfl d_RL_beginFrame_14 ?_
      refine qa_len (k := 1) (i := 0) E hC Nat.one_pos rfl (v0 := nI (qa_n y)) rfl d_RL_beginFrame_17 ?_
      refine lv_icmp_ge hx hb d_RL_beginFrame_18 rfl (fun h9 => absurd h9 (nI_ge hk (by omega))) (fun _ => ?_)
      refine lv_aload_n hx hb d_RL_beginFrame_21 rfl (lv_at hl 1 rfl) ?_
      refine lv_aload_n hx hb d_RL_beginFrame_22 rfl (lv_at hl 1 rfl) ?_
      refine qa_get (k := 8) (i := 0) (f := 7) (val := .int (u 8 0 7)) E hC Nat.one_pos rfl rfl (by decide) f_RL_29 rfl rfl d_RL_beginFrame_23 ?_
      refine lv_aload_n hx hb d_RL_beginFrame_26 rfl (lv_at hl 1 rfl) ?_
      refine qa_get (k := 8) (i := 0) (f := 0) (val := .ref (qa_a y 1 0)) E hC Nat.one_pos rfl rfl (by decide) f_RL_7 rfl rfl d_RL_beginFrame_27 ?_
      refine lv_iload_n hx hb d_RL_beginFrame_30 rfl (lv_at hl 0 rfl) ?_
      refine qa_ald (k := 1) (i := 0) (j := k) E hC Nat.one_pos rfl rfl rfl rfl rfl hk d_RL_beginFrame_31 ?_
      refine lv_aload_n hx hb d_RL_beginFrame_32 rfl (lv_at hl 1 rfl) ?_
      refine qa_get (k := 8) (i := 0) (f := 1) (val := .int (nI (qa_m y))) E hC Nat.one_pos rfl rfl (by decide) f_RL_13 rfl rfl d_RL_beginFrame_33 ?_
      refine qa_pV (k := 2) (i := k) (As := [.int (nI (qa_m y))]) E hC (c_ND_bearable l y u k (nI (qa_m y)) hk) hk rfl rfl k_RL_32 (qa_fitR (by decide) (by decide)) rfl hl.1 rfl (Nat.le_of_ble_eq_true rfl) d_RL_beginFrame_36 ?_
      refine qa_pT (As := [.int (u 8 0 7), .int (qm_min (nI (qa_m y)) ((qm_bc (u 2 k 11) - 1) / 3))]) F (c_JM_max l (u 8 0 7) (qm_min (nI (qa_m y)) ((qm_bc (u 2 k 11) - 1) / 3))) k_RL_38 (qa_fitR (by decide) (by decide)) rfl hl.1 rfl (Nat.le_of_ble_eq_true rfl) d_RL_beginFrame_39 ?_
      refine qa_put (k := 8) (i := 0) (f := 7) E hC Nat.one_pos rfl rfl (by decide) f_RL_29 rfl rfl rfl rfl d_RL_beginFrame_42 (fun H locs hC => ?_)
      refine lv_iinc (v := nI (k + 1)) hx hb d_RL_beginFrame_45 hl (k := 0) rfl (nI_1 k) (by decide) rfl (fun ls hl => ?_)
      have hl : lv_has ls 3 [(2, .int (nI (k + 1))), (0, .ref (qa_a y 8 0)), (1, .int f)] := hl
      refine lv_goto hx hb d_RL_beginFrame_48 rfl ?_
      refine ih (k + 1) _ H locs ls (by omega) hC ?_ (lv_sub hl [0, 1, 2] rfl)
      rw [hI, qa_up_s, qa_up_k (by decide), qa_up_k (by decide), qa_up_up]
      rfl
  refine lv_aload_n hx hb d_RL_beginFrame_0 rfl (lv_at hl 0 rfl) ?_
  refine lv_iload_n hx hb d_RL_beginFrame_1 rfl (lv_at hl 1 rfl) ?_
  refine qa_put (k := 8) (i := 0) (f := 6) E hC Nat.one_pos rfl rfl (by decide) f_RL_26 rfl rfl rfl rfl d_RL_beginFrame_2 (fun H locs hC => ?_)
  refine lv_aload_n hx hb d_RL_beginFrame_5 rfl (lv_at hl 0 rfl) ?_
  refine lv_iconst (v := 0) hx hb d_RL_beginFrame_6 (by decide) ?_
  refine qa_put (k := 8) (i := 0) (f := 7) E hC Nat.one_pos rfl rfl (by decide) f_RL_29 rfl rfl rfl rfl d_RL_beginFrame_7 (fun H locs hC => ?_)
  refine lv_iconst (v := 0) hx hb d_RL_beginFrame_10 (by decide) ?_
  refine lv_istore_n hx hb d_RL_beginFrame_11 rfl hl (by decide) rfl (fun ls hl => ?_)
  have hl : lv_has ls 3 [(2, .int 0), (0, .ref (qa_a y 8 0)), (1, .int f)] := hl
  exact loop (qa_n y) 0 _ H locs ls (by omega) hC rfl (lv_sub hl [0, 1, 2] rfl)
end
section
set_option maxHeartbeats 4000000 in
set_option maxRecDepth 100000 in
theorem c_RL_send0 (l : Launch) (y : qa_L) (v : qa_M) (j : Nat) (x : Int32) (r : Nat) (P : Int32) (hj : j < qa_n y) (hrow : r * qa_n y + qa_n y ≤ qa_h y) : qa_Mv l y_RL_send b_RL_send 7 3 [.ref (qa_a y 8 0), .int (nI j), .int x, .int (nI r), .int P, .int 0] y v (fun u => (∀ k, k ≠ 9 → u k = v k) ∧ qm_S0 (qa_n y) (qm_gt v) P j x r (u 9 0) ∧ ∀ q, ¬ qm_T0 (qa_n y) r q → u 9 0 q = v 9 0 q) := by
  refine qa_ofMv (plainFor_of_name (by decide)) (Nat.le_of_ble_eq_true rfl) ?_
  intro p e s m below meth c ls E hr hlocks hC hl
  have E : qa_E p m c b_RL_send 7 s _ "VotedFrames$Relay" y := E
  have F := E.1
  have hx := F.1
  have hb := F.2.1
  have hown : s.vm.findClass "VotedFrames$Relay" = some m.cls := F.2.2.2.1
  have hts := F.2.2.2.2
  have hn4 : 4 ≤ qa_n y := E.2.1.2.2.1
  have hn7 : qa_n y ≤ 7 := E.2.1.2.2.2.1
  have hl : lv_has ls 7 [(0, .ref (qa_a y 8 0)), (1, .int (nI j)), (2, .int x), (3, .int (nI r)), (4, .int P), (5, .int 0)] := hl
  have hh31 := qa_h_lt E.2.1
  have hb0 : r * qa_n y + qa_n y ≤ qa_h y := hrow
  have loop : ∀ (d k : Nat) (u : qa_M) (H : Heap) (locs : List Loc) (ls : Array Slot), k + d = qa_n y → qa_C y u s H locs → ((∀ k, k ≠ 9 → u k = v k) ∧ (∀ i, i < k → qm_in P (nI i) = false → u 9 0 (r * qa_n y + i) = qm_gt v j x i) ∧ ∀ q, (∀ i, i < k → q ≠ r * qa_n y + i) → u 9 0 q = v 9 0 q) → lv_has ls 7 [(6, .int (nI k)), (0, .ref (qa_a y 8 0)), (1, .int (nI j)), (2, .int x), (3, .int (nI r)), (4, .int P), (5, .int 0)] → W p l e (qa_R 3) s m [.ref (qa_a y 8 0), .int (nI j), .int x, .int (nI r), .int P, .int 0].toArray below meth c H locs 0 0 (MQ below (va_Qv (fun u => (∀ k, k ≠ 9 → u k = v k) ∧ qm_S0 (qa_n y) (qm_gt v) P j x r (u 9 0) ∧ ∀ q, ¬ qm_T0 (qa_n y) r q → u 9 0 q = v 9 0 q) (fun u t => qa_W y u t) (qa_A y)) [.ref (qa_a y 8 0), .int (nI j), .int x, .int (nI r), .int P, .int 0].toArray s 0 0 (qa_A y)) (F0 m 3 ls []) := by
    intro d
    induction d with
    | zero =>
      intro k u H locs ls hkd hC hI hl
      obtain rfl : qa_n y = k := by omega
      refine lv_iload hx hb d_RL_send_3 (lv_at hl 0 rfl) ?_
      refine lv_aload_n hx hb d_RL_send_5 rfl (lv_at hl 1 rfl) ?_
      refine qa_get (k := 8) (i := 0) (f := 0) (val := .ref (qa_a y 1 0)) E hC Nat.one_pos rfl rfl (by decide) f_RL_7 rfl rfl d_RL_send_6 ?_
      refine qa_len (k := 1) (i := 0) E hC Nat.one_pos rfl (v0 := nI (qa_n y)) rfl d_RL_send_9 ?_
      refine lv_icmp_ge hx hb d_RL_send_10 rfl (fun _ => ?_) (fun h9 => absurd (nI_le (Nat.le_refl _) (by omega)) h9)
      refine lv_iload hx hb d_RL_send_49 (lv_at hl 6 rfl) ?_
      refine lv_if_gt hx hb d_RL_send_51 rfl (fun h9 => absurd h9 (by decide)) (fun _ => ?_)
      exact qa_mvret E hC hr hlocks ⟨hI.1, fun i hi h0 => hI.2.1 i hi h0, fun q hq => hI.2.2 q (fun i hi e9 => hq ⟨i, hi, e9⟩)⟩ d_RL_send_54
    | succ d ih =>
      intro k u H locs ls hkd hC hI hl
      have hk : k < qa_n y := by omega
      refine lv_iload hx hb d_RL_send_3 (lv_at hl 0 rfl) ?_
      refine lv_aload_n hx hb d_RL_send_5 rfl (lv_at hl 1 rfl) ?_
      refine qa_get (k := 8) (i := 0) (f := 0) (val := .ref (qa_a y 1 0)) E hC Nat.one_pos rfl rfl (by decide) f_RL_7 rfl rfl d_RL_send_6 ?_
      refine qa_len (k := 1) (i := 0) E hC Nat.one_pos rfl (v0 := nI (qa_n y)) rfl d_RL_send_9 ?_
      refine lv_icmp_ge hx hb d_RL_send_10 rfl (fun h9 => absurd h9 (nI_ge hk (by omega))) (fun _ => ?_)
      refine lv_iload hx hb d_RL_send_13 (lv_at hl 5 rfl) ?_
      refine lv_iload hx hb d_RL_send_15 (lv_at hl 0 rfl) ?_
      refine qa_pN (As := [.int P, .int (nI k)]) E (c_VF_contains l P (nI k)) k_RL_57 (qa_fitR (by decide) (by decide)) rfl hl.1 rfl (Nat.le_of_ble_eq_true rfl) d_RL_send_17 ?_
      refine lv_if_ne hx hb d_RL_send_20 rfl (fun h20 => ?_) (fun h20 => ?_)
      · refine lv_iinc (v := nI (k + 1)) hx hb d_RL_send_43 hl (k := 0) rfl (nI_1 k) (by decide) rfl (fun ls hl => ?_)
        have hl : lv_has ls 7 [(6, .int (nI (k + 1))), (0, .ref (qa_a y 8 0)), (1, .int (nI j)), (2, .int x), (3, .int (nI r)), (4, .int P), (5, .int 0)] := hl
        refine lv_goto hx hb d_RL_send_46 rfl ?_
        exact ih (k + 1) u H locs ls (by omega) hC ⟨hI.1, lt_s hI.2.1 (fun h0 => by rw [h0] at h20; exact absurd rfl h20), fun q hq => hI.2.2 q (fun i hi => hq i (by omega))⟩ (lv_sub hl [0, 1, 2, 3, 4, 5, 6] rfl)
      · refine lv_aload_n hx hb d_RL_send_23 rfl (lv_at hl 1 rfl) ?_
        refine qa_get (k := 8) (i := 0) (f := 2) (val := .ref (qa_a y 9 0)) E hC Nat.one_pos rfl rfl (by decide) f_RL_17 rfl rfl d_RL_send_24 ?_
        refine lv_aload_n hx hb d_RL_send_27 rfl (lv_at hl 1 rfl) ?_
        refine lv_iload_n hx hb d_RL_send_28 rfl (lv_at hl 4 rfl) ?_
        refine lv_iload hx hb d_RL_send_29 (lv_at hl 0 rfl) ?_
        refine qa_pV (k := 8) (i := 0) (As := [.int (nI r), .int (nI k)]) E hC (c_RL_placeOf l y u (nI r) (nI k)) Nat.one_pos rfl rfl k_RL_74 (qa_fitR (by decide) (by decide)) rfl hl.1 rfl (Nat.le_of_ble_eq_true rfl) d_RL_send_31 ?_
        refine lv_aload_n hx hb d_RL_send_34 rfl (lv_at hl 1 rfl) ?_
        refine lv_iload_n hx hb d_RL_send_35 rfl (lv_at hl 2 rfl) ?_
        refine lv_iload_n hx hb d_RL_send_36 rfl (lv_at hl 3 rfl) ?_
        refine lv_iload hx hb d_RL_send_37 (lv_at hl 0 rfl) ?_
        refine qa_pV (k := 8) (i := 0) (As := [.int (nI j), .int x, .int (nI k)]) E hC (c_RL_got l y u j k x hj hk) Nat.one_pos rfl rfl k_RL_77 (qa_fitR (by decide) (by decide)) rfl hl.1 rfl (Nat.le_of_ble_eq_true rfl) d_RL_send_39 ?_
        refine qa_ist (k := 9) (i := 0) (j := (r * qa_n y + k)) E hC Nat.one_pos rfl rfl (by rw [pk_mul, nI_add]) (show r * qa_n y + k < qa_h y by omega) d_RL_send_42 (fun H locs hC => ?_)
        refine lv_iinc (v := nI (k + 1)) hx hb d_RL_send_43 hl (k := 0) rfl (nI_1 k) (by decide) rfl (fun ls hl => ?_)
        have hl : lv_has ls 7 [(6, .int (nI (k + 1))), (0, .ref (qa_a y 8 0)), (1, .int (nI j)), (2, .int x), (3, .int (nI r)), (4, .int P), (5, .int 0)] := hl
        refine lv_goto hx hb d_RL_send_46 rfl ?_
        refine ih (k + 1) _ H locs ls (by omega) hC ⟨fun a ha => ?_, lt_s (fun i hi h0 => ?_) (fun h0 => ?_), fun q hq => ?_⟩ (lv_sub hl [0, 1, 2, 3, 4, 5, 6] rfl)
        · rw [qa_up_kk ha]; exact hI.1 a ha
        · rw [qa_up_f (by omega)]; exact hI.2.1 i hi h0
        · rw [qa_up_s, qm_gt_n (hI.1 2 (by decide)) (by rw [hI.1 8 (by decide)])]
        · rw [qa_up_f (hq k (by omega))]; exact hI.2.2 q (fun i hi => hq i (by omega))
  refine lv_iconst (v := 0) hx hb d_RL_send_0 (by decide) ?_
  refine lv_istore hx hb d_RL_send_1 hl (by decide) rfl (fun ls hl => ?_)
  have hl : lv_has ls 7 [(6, .int 0), (0, .ref (qa_a y 8 0)), (1, .int (nI j)), (2, .int x), (3, .int (nI r)), (4, .int P), (5, .int 0)] := hl
  exact loop (qa_n y) 0 v _ _ ls (by omega) hC ⟨fun _ _ => rfl, lt_0, fun _ _ => rfl⟩ (lv_sub hl [0, 1, 2, 3, 4, 5, 6] rfl)

set_option maxHeartbeats 4000000 in
set_option maxRecDepth 100000 in
theorem c_RL_send1 (l : Launch) (y : qa_L) (v : qa_M) (j : Nat) (x : Int32) (r : Nat) (P : Int32) (hj : j < qa_n y) (hrow : (r * qa_n y + qa_n y) * qa_n y + qa_n y ≤ qa_h y) : qa_Mv l y_RL_send b_RL_send 7 4 [.ref (qa_a y 8 0), .int (nI j), .int x, .int (nI r), .int P, .int 1] y v (fun u => (∀ k, k ≠ 9 → u k = v k) ∧ qm_S1 (qa_n y) (qm_gt v) P j x r (u 9 0) ∧ ∀ q, ¬ qm_T1 (qa_n y) r q → u 9 0 q = v 9 0 q) := by
  refine qa_ofMv (plainFor_of_name (by decide)) (Nat.le_of_ble_eq_true rfl) ?_
  intro p e s m below meth c ls E hr hlocks hC hl
  have E : qa_E p m c b_RL_send 7 s _ "VotedFrames$Relay" y := E
  have F := E.1
  have hx := F.1
  have hb := F.2.1
  have hown : s.vm.findClass "VotedFrames$Relay" = some m.cls := F.2.2.2.1
  have hts := F.2.2.2.2
  have hn4 : 4 ≤ qa_n y := E.2.1.2.2.1
  have hn7 : qa_n y ≤ 7 := E.2.1.2.2.2.1
  have hl : lv_has ls 7 [(0, .ref (qa_a y 8 0)), (1, .int (nI j)), (2, .int x), (3, .int (nI r)), (4, .int P), (5, .int 1)] := hl
  have hh31 := qa_h_lt E.2.1
  have hb0 : r * qa_n y + qa_n y ≤ qa_h y := by rcases qm_n47 hn4 hn7 with e | e | e | e <;> rw [e] at hrow ⊢ <;> omega
  have loop : ∀ (d k : Nat) (u : qa_M) (H : Heap) (locs : List Loc) (ls : Array Slot), k + d = qa_n y → qa_C y u s H locs → ((∀ k, k ≠ 9 → u k = v k) ∧ (∀ i, i < k → qm_in P (nI i) = false → u 9 0 (r * qa_n y + i) = qm_gt v j x i) ∧ ∀ q, (∀ i, i < k → q ≠ r * qa_n y + i) → u 9 0 q = v 9 0 q) → lv_has ls 7 [(6, .int (nI k)), (0, .ref (qa_a y 8 0)), (1, .int (nI j)), (2, .int x), (3, .int (nI r)), (4, .int P), (5, .int 1)] → W p l e (qa_R 4) s m [.ref (qa_a y 8 0), .int (nI j), .int x, .int (nI r), .int P, .int 1].toArray below meth c H locs 0 0 (MQ below (va_Qv (fun u => (∀ k, k ≠ 9 → u k = v k) ∧ qm_S1 (qa_n y) (qm_gt v) P j x r (u 9 0) ∧ ∀ q, ¬ qm_T1 (qa_n y) r q → u 9 0 q = v 9 0 q) (fun u t => qa_W y u t) (qa_A y)) [.ref (qa_a y 8 0), .int (nI j), .int x, .int (nI r), .int P, .int 1].toArray s 0 0 (qa_A y)) (F0 m 3 ls []) := by
    intro d
    induction d with
    | zero =>
      intro k u H locs ls hkd hC hI hl
      obtain rfl : qa_n y = k := by omega
      refine lv_iload hx hb d_RL_send_3 (lv_at hl 0 rfl) ?_
      refine lv_aload_n hx hb d_RL_send_5 rfl (lv_at hl 1 rfl) ?_
      refine qa_get (k := 8) (i := 0) (f := 0) (val := .ref (qa_a y 1 0)) E hC Nat.one_pos rfl rfl (by decide) f_RL_7 rfl rfl d_RL_send_6 ?_
      refine qa_len (k := 1) (i := 0) E hC Nat.one_pos rfl (v0 := nI (qa_n y)) rfl d_RL_send_9 ?_
      refine lv_icmp_ge hx hb d_RL_send_10 rfl (fun _ => ?_) (fun h9 => absurd (nI_le (Nat.le_refl _) (by omega)) h9)
      refine lv_iload hx hb d_RL_send_49 (lv_at hl 6 rfl) ?_
      refine lv_if_gt hx hb d_RL_send_51 rfl (fun _ => ?_) (fun h9 => absurd (by decide) h9)
      refine lv_iconst (v := 0) hx hb d_RL_send_55 (by decide) ?_
      refine lv_istore hx hb d_RL_send_56 hl (by decide) rfl (fun ls hl => ?_)
      have hl : lv_has ls 7 [(6, .int 0), (0, .ref (qa_a y 8 0)), (1, .int (nI j)), (2, .int x), (3, .int (nI r)), (4, .int P), (5, .int 1)] := hl
      have loop2 : ∀ (d k : Nat) (u : qa_M) (H : Heap) (locs : List Loc) (ls : Array Slot), k + d = qa_n y → qa_C y u s H locs → ((∀ k, k ≠ 9 → u k = v k) ∧ qm_S0 (qa_n y) (qm_gt v) P j x r (u 9 0) ∧ (∀ a, a < k → qm_in P (nI a) = false → qm_S0 (qa_n y) (qm_gt v) (qm_ad P a) a (qm_gt v j x a) (r * qa_n y + 1 + a) (u 9 0)) ∧ ∀ q, ¬ qm_T0 (qa_n y) r q → (∀ a, a < k → ¬ qm_T0 (qa_n y) (r * qa_n y + 1 + a) q) → u 9 0 q = v 9 0 q) → lv_has ls 7 [(6, .int (nI k)), (0, .ref (qa_a y 8 0)), (1, .int (nI j)), (2, .int x), (3, .int (nI r)), (4, .int P), (5, .int 1)] → W p l e (qa_R 4) s m [.ref (qa_a y 8 0), .int (nI j), .int x, .int (nI r), .int P, .int 1].toArray below meth c H locs 0 0 (MQ below (va_Qv (fun u => (∀ k, k ≠ 9 → u k = v k) ∧ qm_S1 (qa_n y) (qm_gt v) P j x r (u 9 0) ∧ ∀ q, ¬ qm_T1 (qa_n y) r q → u 9 0 q = v 9 0 q) (fun u t => qa_W y u t) (qa_A y)) [.ref (qa_a y 8 0), .int (nI j), .int x, .int (nI r), .int P, .int 1].toArray s 0 0 (qa_A y)) (F0 m 58 ls []) := by
        intro d
        induction d with
        | zero =>
          intro k u H locs ls hkd hC hI hl
          obtain rfl : qa_n y = k := by omega
          have hI2 := hI
          refine lv_iload hx hb d_RL_send_58 (lv_at hl 0 rfl) ?_
          refine lv_aload_n hx hb d_RL_send_60 rfl (lv_at hl 1 rfl) ?_
          refine qa_get (k := 8) (i := 0) (f := 0) (val := .ref (qa_a y 1 0)) E hC Nat.one_pos rfl rfl (by decide) f_RL_7 rfl rfl d_RL_send_61 ?_
          refine qa_len (k := 1) (i := 0) E hC Nat.one_pos rfl (v0 := nI (qa_n y)) rfl d_RL_send_64 ?_
          refine lv_icmp_ge hx hb d_RL_send_65 rfl (fun _ => ?_) (fun h9 => absurd (nI_le (Nat.le_refl _) (by omega)) h9)
          exact qa_mvret E hC hr hlocks ⟨hI2.1, ⟨hI2.2.1, hI2.2.2.1⟩, fun q hq => hI2.2.2.2 q (fun z => hq (Or.inl z)) (fun a ha z => hq (Or.inr ⟨a, ha, z⟩))⟩ d_RL_send_120
        | succ d ih2 =>
          intro k u H locs ls hkd hC hI hl
          have hk : k < qa_n y := by omega
          have hI2 := hI
          refine lv_iload hx hb d_RL_send_58 (lv_at hl 0 rfl) ?_
          refine lv_aload_n hx hb d_RL_send_60 rfl (lv_at hl 1 rfl) ?_
          refine qa_get (k := 8) (i := 0) (f := 0) (val := .ref (qa_a y 1 0)) E hC Nat.one_pos rfl rfl (by decide) f_RL_7 rfl rfl d_RL_send_61 ?_
          refine qa_len (k := 1) (i := 0) E hC Nat.one_pos rfl (v0 := nI (qa_n y)) rfl d_RL_send_64 ?_
          refine lv_icmp_ge hx hb d_RL_send_65 rfl (fun h9 => absurd h9 (nI_ge hk (by omega))) (fun _ => ?_)
          refine lv_iload hx hb d_RL_send_68 (lv_at hl 5 rfl) ?_
          refine lv_iload hx hb d_RL_send_70 (lv_at hl 0 rfl) ?_
          refine qa_pN (As := [.int P, .int (nI k)]) E (c_VF_contains l P (nI k)) k_RL_57 (qa_fitR (by decide) (by decide)) rfl hl.1 rfl (Nat.le_of_ble_eq_true rfl) d_RL_send_72 ?_
          refine lv_if_ne hx hb d_RL_send_75 rfl (fun h75 => ?_) (fun h75 => ?_)
          · refine lv_iinc (v := nI (k + 1)) hx hb d_RL_send_114 hl (k := 0) rfl (nI_1 k) (by decide) rfl (fun ls hl => ?_)
            have hl : lv_has ls 7 [(6, .int (nI (k + 1))), (0, .ref (qa_a y 8 0)), (1, .int (nI j)), (2, .int x), (3, .int (nI r)), (4, .int P), (5, .int 1)] := hl
            refine lv_goto hx hb d_RL_send_117 rfl ?_
            exact ih2 (k + 1) u H locs ls (by omega) hC ⟨hI2.1, hI2.2.1, lt_s hI2.2.2.1 (fun h0 => by rw [h0] at h75; exact absurd rfl h75), fun q h1 h2 => hI2.2.2.2 q h1 (fun a ha => h2 a (by omega))⟩ (lv_sub hl [0, 1, 2, 3, 4, 5, 6] rfl)
          · refine lv_aload_n hx hb d_RL_send_78 rfl (lv_at hl 1 rfl) ?_
            refine lv_iload hx hb d_RL_send_79 (lv_at hl 0 rfl) ?_
            refine lv_aload_n hx hb d_RL_send_81 rfl (lv_at hl 1 rfl) ?_
            refine qa_get (k := 8) (i := 0) (f := 2) (val := .ref (qa_a y 9 0)) E hC Nat.one_pos rfl rfl (by decide) f_RL_17 rfl rfl d_RL_send_82 ?_
            refine lv_aload_n hx hb d_RL_send_85 rfl (lv_at hl 1 rfl) ?_
            refine lv_iload_n hx hb d_RL_send_86 rfl (lv_at hl 4 rfl) ?_
            refine lv_iload hx hb d_RL_send_87 (lv_at hl 0 rfl) ?_
            refine qa_pV (k := 8) (i := 0) (As := [.int (nI r), .int (nI k)]) E hC (c_RL_placeOf l y u (nI r) (nI k)) Nat.one_pos rfl rfl k_RL_74 (qa_fitR (by decide) (by decide)) rfl hl.1 rfl (Nat.le_of_ble_eq_true rfl) d_RL_send_89 ?_
            refine qa_ild (k := 9) (i := 0) (j := (r * qa_n y + k)) E hC Nat.one_pos rfl rfl (by rw [pk_mul, nI_add]) (show r * qa_n y + k < qa_h y by omega) d_RL_send_92 ?_
            refine lv_aload_n hx hb d_RL_send_93 rfl (lv_at hl 1 rfl) ?_
            refine lv_iload_n hx hb d_RL_send_94 rfl (lv_at hl 4 rfl) ?_
            refine lv_iload hx hb d_RL_send_95 (lv_at hl 0 rfl) ?_
            refine qa_pV (k := 8) (i := 0) (As := [.int (nI r), .int (nI k)]) E hC (c_RL_follow l y u (nI r) (nI k)) Nat.one_pos rfl rfl k_RL_80 (qa_fitR (by decide) (by decide)) rfl hl.1 rfl (Nat.le_of_ble_eq_true rfl) d_RL_send_97 ?_
            refine lv_iload hx hb d_RL_send_100 (lv_at hl 5 rfl) ?_
            refine lv_iconst (v := 1) hx hb d_RL_send_102 (by decide) ?_
            refine lv_iload hx hb d_RL_send_103 (lv_at hl 0 rfl) ?_
            refine lv_ishl hx hb d_RL_send_105 ?_
            refine lv_ior hx hb d_RL_send_106 ?_
            refine lv_iload hx hb d_RL_send_107 (lv_at hl 6 rfl) ?_
            refine lv_iconst (v := 1) hx hb d_RL_send_109 (by decide) ?_
            refine lv_isub hx hb d_RL_send_110 ?_
            rw [show nI r * nI (qa_n y) + 1 + nI k = nI (r * qa_n y + 1 + k) by rw [pk_mul, nI_1, nI_add]]
            rw [show (1 : Int32) - 1 = 0 by decide]
            refine qa_mVv (k := 8) (i := 0) (As := [.int (nI k), .int (u 9 0 (r * qa_n y + k)), .int (nI (r * qa_n y + 1 + k)), .int (P ||| ((1 : Int32) <<< ((nI k) &&& 31))), .int 0]) E hC (c_RL_send0 l y u k (u 9 0 (r * qa_n y + k)) (r * qa_n y + 1 + k) (P ||| ((1 : Int32) <<< ((nI k) &&& 31))) hk (by rcases qm_n47 hn4 hn7 with e | e | e | e <;> rw [e] at hrow hk ⊢ <;> omega)) Nat.one_pos rfl rfl k_RL_50 (qa_fitR (by decide) (by decide)) rfl hl.1 rfl (Nat.le_of_ble_eq_true rfl) d_RL_send_111 (fun u1 H locs hp1 hC => ?_)
            refine lv_iinc (v := nI (k + 1)) hx hb d_RL_send_114 hl (k := 0) rfl (nI_1 k) (by decide) rfl (fun ls hl => ?_)
            have hl : lv_has ls 7 [(6, .int (nI (k + 1))), (0, .ref (qa_a y 8 0)), (1, .int (nI j)), (2, .int x), (3, .int (nI r)), (4, .int P), (5, .int 1)] := hl
            refine lv_goto hx hb d_RL_send_117 rfl ?_
            have hg : qm_gt u = qm_gt v := qm_gt_n (hI2.1 2 (by decide)) (by rw [hI2.1 8 (by decide)])
            have hP0 : qm_in P (nI k) = false := qb_e0 h75
            have hx0 : u 9 0 (r * qa_n y + k) = qm_gt v j x k := hI2.2.1 k hk hP0
            rw [hg, hx0] at hp1
            refine ih2 (k + 1) u1 H locs ls (by omega) hC ⟨fun a ha => (hp1.1 a ha).trans (hI2.1 a ha), qm_S0_n hI2.2.1 (fun q hq => hp1.2.2 q (qm_T_a hn4 hn7 hq)), lt_s (fun a ha h0 => qm_S0_n (hI2.2.2.1 a ha h0) (fun q hq => hp1.2.2 q (qm_T_b (by omega) hq))) (fun _ => hp1.2.1), fun q h1 h2 => (hp1.2.2 q (h2 k (by omega))).trans (hI2.2.2.2 q h1 (fun a ha => h2 a (by omega)))⟩ (lv_sub hl [0, 1, 2, 3, 4, 5, 6] rfl)
      exact loop2 (qa_n y) 0 u H locs ls (by omega) hC ⟨hI.1, fun i hi h0 => hI.2.1 i hi h0, lt_0, fun q h1 _ => hI.2.2 q (fun i hi e9 => h1 ⟨i, hi, e9⟩)⟩ (lv_sub hl [0, 1, 2, 3, 4, 5, 6] rfl)
    | succ d ih =>
      intro k u H locs ls hkd hC hI hl
      have hk : k < qa_n y := by omega
      refine lv_iload hx hb d_RL_send_3 (lv_at hl 0 rfl) ?_
      refine lv_aload_n hx hb d_RL_send_5 rfl (lv_at hl 1 rfl) ?_
      refine qa_get (k := 8) (i := 0) (f := 0) (val := .ref (qa_a y 1 0)) E hC Nat.one_pos rfl rfl (by decide) f_RL_7 rfl rfl d_RL_send_6 ?_
      refine qa_len (k := 1) (i := 0) E hC Nat.one_pos rfl (v0 := nI (qa_n y)) rfl d_RL_send_9 ?_
      refine lv_icmp_ge hx hb d_RL_send_10 rfl (fun h9 => absurd h9 (nI_ge hk (by omega))) (fun _ => ?_)
      refine lv_iload hx hb d_RL_send_13 (lv_at hl 5 rfl) ?_
      refine lv_iload hx hb d_RL_send_15 (lv_at hl 0 rfl) ?_
      refine qa_pN (As := [.int P, .int (nI k)]) E (c_VF_contains l P (nI k)) k_RL_57 (qa_fitR (by decide) (by decide)) rfl hl.1 rfl (Nat.le_of_ble_eq_true rfl) d_RL_send_17 ?_
      refine lv_if_ne hx hb d_RL_send_20 rfl (fun h20 => ?_) (fun h20 => ?_)
      · refine lv_iinc (v := nI (k + 1)) hx hb d_RL_send_43 hl (k := 0) rfl (nI_1 k) (by decide) rfl (fun ls hl => ?_)
        have hl : lv_has ls 7 [(6, .int (nI (k + 1))), (0, .ref (qa_a y 8 0)), (1, .int (nI j)), (2, .int x), (3, .int (nI r)), (4, .int P), (5, .int 1)] := hl
        refine lv_goto hx hb d_RL_send_46 rfl ?_
        exact ih (k + 1) u H locs ls (by omega) hC ⟨hI.1, lt_s hI.2.1 (fun h0 => by rw [h0] at h20; exact absurd rfl h20), fun q hq => hI.2.2 q (fun i hi => hq i (by omega))⟩ (lv_sub hl [0, 1, 2, 3, 4, 5, 6] rfl)
      · refine lv_aload_n hx hb d_RL_send_23 rfl (lv_at hl 1 rfl) ?_
        refine qa_get (k := 8) (i := 0) (f := 2) (val := .ref (qa_a y 9 0)) E hC Nat.one_pos rfl rfl (by decide) f_RL_17 rfl rfl d_RL_send_24 ?_
        refine lv_aload_n hx hb d_RL_send_27 rfl (lv_at hl 1 rfl) ?_
        refine lv_iload_n hx hb d_RL_send_28 rfl (lv_at hl 4 rfl) ?_
        refine lv_iload hx hb d_RL_send_29 (lv_at hl 0 rfl) ?_
        refine qa_pV (k := 8) (i := 0) (As := [.int (nI r), .int (nI k)]) E hC (c_RL_placeOf l y u (nI r) (nI k)) Nat.one_pos rfl rfl k_RL_74 (qa_fitR (by decide) (by decide)) rfl hl.1 rfl (Nat.le_of_ble_eq_true rfl) d_RL_send_31 ?_
        refine lv_aload_n hx hb d_RL_send_34 rfl (lv_at hl 1 rfl) ?_
        refine lv_iload_n hx hb d_RL_send_35 rfl (lv_at hl 2 rfl) ?_
        refine lv_iload_n hx hb d_RL_send_36 rfl (lv_at hl 3 rfl) ?_
        refine lv_iload hx hb d_RL_send_37 (lv_at hl 0 rfl) ?_
        refine qa_pV (k := 8) (i := 0) (As := [.int (nI j), .int x, .int (nI k)]) E hC (c_RL_got l y u j k x hj hk) Nat.one_pos rfl rfl k_RL_77 (qa_fitR (by decide) (by decide)) rfl hl.1 rfl (Nat.le_of_ble_eq_true rfl) d_RL_send_39 ?_
        refine qa_ist (k := 9) (i := 0) (j := (r * qa_n y + k)) E hC Nat.one_pos rfl rfl (by rw [pk_mul, nI_add]) (show r * qa_n y + k < qa_h y by omega) d_RL_send_42 (fun H locs hC => ?_)
        refine lv_iinc (v := nI (k + 1)) hx hb d_RL_send_43 hl (k := 0) rfl (nI_1 k) (by decide) rfl (fun ls hl => ?_)
        have hl : lv_has ls 7 [(6, .int (nI (k + 1))), (0, .ref (qa_a y 8 0)), (1, .int (nI j)), (2, .int x), (3, .int (nI r)), (4, .int P), (5, .int 1)] := hl
        refine lv_goto hx hb d_RL_send_46 rfl ?_
        refine ih (k + 1) _ H locs ls (by omega) hC ⟨fun a ha => ?_, lt_s (fun i hi h0 => ?_) (fun h0 => ?_), fun q hq => ?_⟩ (lv_sub hl [0, 1, 2, 3, 4, 5, 6] rfl)
        · rw [qa_up_kk ha]; exact hI.1 a ha
        · rw [qa_up_f (by omega)]; exact hI.2.1 i hi h0
        · rw [qa_up_s, qm_gt_n (hI.1 2 (by decide)) (by rw [hI.1 8 (by decide)])]
        · rw [qa_up_f (hq k (by omega))]; exact hI.2.2 q (fun i hi => hq i (by omega))
  refine lv_iconst (v := 0) hx hb d_RL_send_0 (by decide) ?_
  refine lv_istore hx hb d_RL_send_1 hl (by decide) rfl (fun ls hl => ?_)
  have hl : lv_has ls 7 [(6, .int 0), (0, .ref (qa_a y 8 0)), (1, .int (nI j)), (2, .int x), (3, .int (nI r)), (4, .int P), (5, .int 1)] := hl
  exact loop (qa_n y) 0 v _ _ ls (by omega) hC ⟨fun _ _ => rfl, lt_0, fun _ _ => rfl⟩ (lv_sub hl [0, 1, 2, 3, 4, 5, 6] rfl)

set_option maxHeartbeats 4000000 in
set_option maxRecDepth 100000 in
theorem c_RL_send2 (l : Launch) (y : qa_L) (v : qa_M) (j : Nat) (x : Int32) (P : Int32) (hj : j < qa_n y) (hrow : (qa_n y * qa_n y + qa_n y) * qa_n y + qa_n y ≤ qa_h y) : qa_Mv l y_RL_send b_RL_send 7 5 [.ref (qa_a y 8 0), .int (nI j), .int x, .int (nI 0), .int P, .int 2] y v (fun u => (∀ k, k ≠ 9 → u k = v k) ∧ qm_S2 (qa_n y) (qm_gt v) P j x 0 (u 9 0) ∧ ∀ q, ¬ qm_T2 (qa_n y) 0 q → u 9 0 q = v 9 0 q) := by
  refine qa_ofMv (plainFor_of_name (by decide)) (Nat.le_of_ble_eq_true rfl) ?_
  intro p e s m below meth c ls E hr hlocks hC hl
  have E : qa_E p m c b_RL_send 7 s _ "VotedFrames$Relay" y := E
  have F := E.1
  have hx := F.1
  have hb := F.2.1
  have hown : s.vm.findClass "VotedFrames$Relay" = some m.cls := F.2.2.2.1
  have hts := F.2.2.2.2
  have hn4 : 4 ≤ qa_n y := E.2.1.2.2.1
  have hn7 : qa_n y ≤ 7 := E.2.1.2.2.2.1
  have hl : lv_has ls 7 [(0, .ref (qa_a y 8 0)), (1, .int (nI j)), (2, .int x), (3, .int (nI 0)), (4, .int P), (5, .int 2)] := hl
  have hh31 := qa_h_lt E.2.1
  have hb0 : 0 * qa_n y + qa_n y ≤ qa_h y := by rcases qm_n47 hn4 hn7 with e | e | e | e <;> rw [e] at hrow ⊢ <;> omega
  have loop : ∀ (d k : Nat) (u : qa_M) (H : Heap) (locs : List Loc) (ls : Array Slot), k + d = qa_n y → qa_C y u s H locs → ((∀ k, k ≠ 9 → u k = v k) ∧ (∀ i, i < k → qm_in P (nI i) = false → u 9 0 (0 * qa_n y + i) = qm_gt v j x i) ∧ ∀ q, (∀ i, i < k → q ≠ 0 * qa_n y + i) → u 9 0 q = v 9 0 q) → lv_has ls 7 [(6, .int (nI k)), (0, .ref (qa_a y 8 0)), (1, .int (nI j)), (2, .int x), (3, .int (nI 0)), (4, .int P), (5, .int 2)] → W p l e (qa_R 5) s m [.ref (qa_a y 8 0), .int (nI j), .int x, .int (nI 0), .int P, .int 2].toArray below meth c H locs 0 0 (MQ below (va_Qv (fun u => (∀ k, k ≠ 9 → u k = v k) ∧ qm_S2 (qa_n y) (qm_gt v) P j x 0 (u 9 0) ∧ ∀ q, ¬ qm_T2 (qa_n y) 0 q → u 9 0 q = v 9 0 q) (fun u t => qa_W y u t) (qa_A y)) [.ref (qa_a y 8 0), .int (nI j), .int x, .int (nI 0), .int P, .int 2].toArray s 0 0 (qa_A y)) (F0 m 3 ls []) := by
    intro d
    induction d with
    | zero =>
      intro k u H locs ls hkd hC hI hl
      obtain rfl : qa_n y = k := by omega
      refine lv_iload hx hb d_RL_send_3 (lv_at hl 0 rfl) ?_
      refine lv_aload_n hx hb d_RL_send_5 rfl (lv_at hl 1 rfl) ?_
      refine qa_get (k := 8) (i := 0) (f := 0) (val := .ref (qa_a y 1 0)) E hC Nat.one_pos rfl rfl (by decide) f_RL_7 rfl rfl d_RL_send_6 ?_
      refine qa_len (k := 1) (i := 0) E hC Nat.one_pos rfl (v0 := nI (qa_n y)) rfl d_RL_send_9 ?_
      refine lv_icmp_ge hx hb d_RL_send_10 rfl (fun _ => ?_) (fun h9 => absurd (nI_le (Nat.le_refl _) (by omega)) h9)
      refine lv_iload hx hb d_RL_send_49 (lv_at hl 6 rfl) ?_
      refine lv_if_gt hx hb d_RL_send_51 rfl (fun _ => ?_) (fun h9 => absurd (by decide) h9)
      refine lv_iconst (v := 0) hx hb d_RL_send_55 (by decide) ?_
      refine lv_istore hx hb d_RL_send_56 hl (by decide) rfl (fun ls hl => ?_)
      have hl : lv_has ls 7 [(6, .int 0), (0, .ref (qa_a y 8 0)), (1, .int (nI j)), (2, .int x), (3, .int (nI 0)), (4, .int P), (5, .int 2)] := hl
      have loop2 : ∀ (d k : Nat) (u : qa_M) (H : Heap) (locs : List Loc) (ls : Array Slot), k + d = qa_n y → qa_C y u s H locs → ((∀ k, k ≠ 9 → u k = v k) ∧ qm_S0 (qa_n y) (qm_gt v) P j x 0 (u 9 0) ∧ (∀ a, a < k → qm_in P (nI a) = false → qm_S1 (qa_n y) (qm_gt v) (qm_ad P a) a (qm_gt v j x a) (0 * qa_n y + 1 + a) (u 9 0)) ∧ ∀ q, ¬ qm_T0 (qa_n y) 0 q → (∀ a, a < k → ¬ qm_T1 (qa_n y) (0 * qa_n y + 1 + a) q) → u 9 0 q = v 9 0 q) → lv_has ls 7 [(6, .int (nI k)), (0, .ref (qa_a y 8 0)), (1, .int (nI j)), (2, .int x), (3, .int (nI 0)), (4, .int P), (5, .int 2)] → W p l e (qa_R 5) s m [.ref (qa_a y 8 0), .int (nI j), .int x, .int (nI 0), .int P, .int 2].toArray below meth c H locs 0 0 (MQ below (va_Qv (fun u => (∀ k, k ≠ 9 → u k = v k) ∧ qm_S2 (qa_n y) (qm_gt v) P j x 0 (u 9 0) ∧ ∀ q, ¬ qm_T2 (qa_n y) 0 q → u 9 0 q = v 9 0 q) (fun u t => qa_W y u t) (qa_A y)) [.ref (qa_a y 8 0), .int (nI j), .int x, .int (nI 0), .int P, .int 2].toArray s 0 0 (qa_A y)) (F0 m 58 ls []) := by
        intro d
        induction d with
        | zero =>
          intro k u H locs ls hkd hC hI hl
          obtain rfl : qa_n y = k := by omega
          have hI2 := hI
          refine lv_iload hx hb d_RL_send_58 (lv_at hl 0 rfl) ?_
          refine lv_aload_n hx hb d_RL_send_60 rfl (lv_at hl 1 rfl) ?_
          refine qa_get (k := 8) (i := 0) (f := 0) (val := .ref (qa_a y 1 0)) E hC Nat.one_pos rfl rfl (by decide) f_RL_7 rfl rfl d_RL_send_61 ?_
          refine qa_len (k := 1) (i := 0) E hC Nat.one_pos rfl (v0 := nI (qa_n y)) rfl d_RL_send_64 ?_
          refine lv_icmp_ge hx hb d_RL_send_65 rfl (fun _ => ?_) (fun h9 => absurd (nI_le (Nat.le_refl _) (by omega)) h9)
          exact qa_mvret E hC hr hlocks ⟨hI2.1, ⟨hI2.2.1, hI2.2.2.1⟩, fun q hq => hI2.2.2.2 q (fun z => hq (Or.inl z)) (fun a ha z => hq (Or.inr ⟨a, ha, z⟩))⟩ d_RL_send_120
        | succ d ih2 =>
          intro k u H locs ls hkd hC hI hl
          have hk : k < qa_n y := by omega
          have hI2 := hI
          refine lv_iload hx hb d_RL_send_58 (lv_at hl 0 rfl) ?_
          refine lv_aload_n hx hb d_RL_send_60 rfl (lv_at hl 1 rfl) ?_
          refine qa_get (k := 8) (i := 0) (f := 0) (val := .ref (qa_a y 1 0)) E hC Nat.one_pos rfl rfl (by decide) f_RL_7 rfl rfl d_RL_send_61 ?_
          refine qa_len (k := 1) (i := 0) E hC Nat.one_pos rfl (v0 := nI (qa_n y)) rfl d_RL_send_64 ?_
          refine lv_icmp_ge hx hb d_RL_send_65 rfl (fun h9 => absurd h9 (nI_ge hk (by omega))) (fun _ => ?_)
          refine lv_iload hx hb d_RL_send_68 (lv_at hl 5 rfl) ?_
          refine lv_iload hx hb d_RL_send_70 (lv_at hl 0 rfl) ?_
          refine qa_pN (As := [.int P, .int (nI k)]) E (c_VF_contains l P (nI k)) k_RL_57 (qa_fitR (by decide) (by decide)) rfl hl.1 rfl (Nat.le_of_ble_eq_true rfl) d_RL_send_72 ?_
          refine lv_if_ne hx hb d_RL_send_75 rfl (fun h75 => ?_) (fun h75 => ?_)
          · refine lv_iinc (v := nI (k + 1)) hx hb d_RL_send_114 hl (k := 0) rfl (nI_1 k) (by decide) rfl (fun ls hl => ?_)
            have hl : lv_has ls 7 [(6, .int (nI (k + 1))), (0, .ref (qa_a y 8 0)), (1, .int (nI j)), (2, .int x), (3, .int (nI 0)), (4, .int P), (5, .int 2)] := hl
            refine lv_goto hx hb d_RL_send_117 rfl ?_
            exact ih2 (k + 1) u H locs ls (by omega) hC ⟨hI2.1, hI2.2.1, lt_s hI2.2.2.1 (fun h0 => by rw [h0] at h75; exact absurd rfl h75), fun q h1 h2 => hI2.2.2.2 q h1 (fun a ha => h2 a (by omega))⟩ (lv_sub hl [0, 1, 2, 3, 4, 5, 6] rfl)
          · refine lv_aload_n hx hb d_RL_send_78 rfl (lv_at hl 1 rfl) ?_
            refine lv_iload hx hb d_RL_send_79 (lv_at hl 0 rfl) ?_
            refine lv_aload_n hx hb d_RL_send_81 rfl (lv_at hl 1 rfl) ?_
            refine qa_get (k := 8) (i := 0) (f := 2) (val := .ref (qa_a y 9 0)) E hC Nat.one_pos rfl rfl (by decide) f_RL_17 rfl rfl d_RL_send_82 ?_
            refine lv_aload_n hx hb d_RL_send_85 rfl (lv_at hl 1 rfl) ?_
            refine lv_iload_n hx hb d_RL_send_86 rfl (lv_at hl 4 rfl) ?_
            refine lv_iload hx hb d_RL_send_87 (lv_at hl 0 rfl) ?_
            refine qa_pV (k := 8) (i := 0) (As := [.int (nI 0), .int (nI k)]) E hC (c_RL_placeOf l y u (nI 0) (nI k)) Nat.one_pos rfl rfl k_RL_74 (qa_fitR (by decide) (by decide)) rfl hl.1 rfl (Nat.le_of_ble_eq_true rfl) d_RL_send_89 ?_
            refine qa_ild (k := 9) (i := 0) (j := (0 * qa_n y + k)) E hC Nat.one_pos rfl rfl (by rw [pk_mul, nI_add]) (show 0 * qa_n y + k < qa_h y by omega) d_RL_send_92 ?_
            refine lv_aload_n hx hb d_RL_send_93 rfl (lv_at hl 1 rfl) ?_
            refine lv_iload_n hx hb d_RL_send_94 rfl (lv_at hl 4 rfl) ?_
            refine lv_iload hx hb d_RL_send_95 (lv_at hl 0 rfl) ?_
            refine qa_pV (k := 8) (i := 0) (As := [.int (nI 0), .int (nI k)]) E hC (c_RL_follow l y u (nI 0) (nI k)) Nat.one_pos rfl rfl k_RL_80 (qa_fitR (by decide) (by decide)) rfl hl.1 rfl (Nat.le_of_ble_eq_true rfl) d_RL_send_97 ?_
            refine lv_iload hx hb d_RL_send_100 (lv_at hl 5 rfl) ?_
            refine lv_iconst (v := 1) hx hb d_RL_send_102 (by decide) ?_
            refine lv_iload hx hb d_RL_send_103 (lv_at hl 0 rfl) ?_
            refine lv_ishl hx hb d_RL_send_105 ?_
            refine lv_ior hx hb d_RL_send_106 ?_
            refine lv_iload hx hb d_RL_send_107 (lv_at hl 6 rfl) ?_
            refine lv_iconst (v := 1) hx hb d_RL_send_109 (by decide) ?_
            refine lv_isub hx hb d_RL_send_110 ?_
            rw [show nI 0 * nI (qa_n y) + 1 + nI k = nI (0 * qa_n y + 1 + k) by rw [pk_mul, nI_1, nI_add]]
            rw [show (2 : Int32) - 1 = 1 by decide]
            refine qa_mVv (k := 8) (i := 0) (As := [.int (nI k), .int (u 9 0 (0 * qa_n y + k)), .int (nI (0 * qa_n y + 1 + k)), .int (P ||| ((1 : Int32) <<< ((nI k) &&& 31))), .int 1]) E hC (c_RL_send1 l y u k (u 9 0 (0 * qa_n y + k)) (0 * qa_n y + 1 + k) (P ||| ((1 : Int32) <<< ((nI k) &&& 31))) hk (by rcases qm_n47 hn4 hn7 with e | e | e | e <;> rw [e] at hrow hk ⊢ <;> omega)) Nat.one_pos rfl rfl k_RL_50 (qa_fitR (by decide) (by decide)) rfl hl.1 rfl (Nat.le_of_ble_eq_true rfl) d_RL_send_111 (fun u1 H locs hp1 hC => ?_)
            refine lv_iinc (v := nI (k + 1)) hx hb d_RL_send_114 hl (k := 0) rfl (nI_1 k) (by decide) rfl (fun ls hl => ?_)
            have hl : lv_has ls 7 [(6, .int (nI (k + 1))), (0, .ref (qa_a y 8 0)), (1, .int (nI j)), (2, .int x), (3, .int (nI 0)), (4, .int P), (5, .int 2)] := hl
            refine lv_goto hx hb d_RL_send_117 rfl ?_
            have hg : qm_gt u = qm_gt v := qm_gt_n (hI2.1 2 (by decide)) (by rw [hI2.1 8 (by decide)])
            have hP0 : qm_in P (nI k) = false := qb_e0 h75
            have hx0 : u 9 0 (0 * qa_n y + k) = qm_gt v j x k := hI2.2.1 k hk hP0
            rw [hg, hx0] at hp1
            refine ih2 (k + 1) u1 H locs ls (by omega) hC ⟨fun a ha => (hp1.1 a ha).trans (hI2.1 a ha), qm_S0_n hI2.2.1 (fun q hq => hp1.2.2 q (qm_T_c hn4 hn7 hq)), lt_s (fun a ha h0 => qm_S1_n (hI2.2.2.1 a ha h0) (fun q hq => hp1.2.2 q (qm_T_d hn4 hn7 (by omega) hk (by omega) hq))) (fun _ => hp1.2.1), fun q h1 h2 => (hp1.2.2 q (h2 k (by omega))).trans (hI2.2.2.2 q h1 (fun a ha => h2 a (by omega)))⟩ (lv_sub hl [0, 1, 2, 3, 4, 5, 6] rfl)
      exact loop2 (qa_n y) 0 u H locs ls (by omega) hC ⟨hI.1, fun i hi h0 => hI.2.1 i hi h0, lt_0, fun q h1 _ => hI.2.2 q (fun i hi e9 => h1 ⟨i, hi, e9⟩)⟩ (lv_sub hl [0, 1, 2, 3, 4, 5, 6] rfl)
    | succ d ih =>
      intro k u H locs ls hkd hC hI hl
      have hk : k < qa_n y := by omega
      refine lv_iload hx hb d_RL_send_3 (lv_at hl 0 rfl) ?_
      refine lv_aload_n hx hb d_RL_send_5 rfl (lv_at hl 1 rfl) ?_
      refine qa_get (k := 8) (i := 0) (f := 0) (val := .ref (qa_a y 1 0)) E hC Nat.one_pos rfl rfl (by decide) f_RL_7 rfl rfl d_RL_send_6 ?_
      refine qa_len (k := 1) (i := 0) E hC Nat.one_pos rfl (v0 := nI (qa_n y)) rfl d_RL_send_9 ?_
      refine lv_icmp_ge hx hb d_RL_send_10 rfl (fun h9 => absurd h9 (nI_ge hk (by omega))) (fun _ => ?_)
      refine lv_iload hx hb d_RL_send_13 (lv_at hl 5 rfl) ?_
      refine lv_iload hx hb d_RL_send_15 (lv_at hl 0 rfl) ?_
      refine qa_pN (As := [.int P, .int (nI k)]) E (c_VF_contains l P (nI k)) k_RL_57 (qa_fitR (by decide) (by decide)) rfl hl.1 rfl (Nat.le_of_ble_eq_true rfl) d_RL_send_17 ?_
      refine lv_if_ne hx hb d_RL_send_20 rfl (fun h20 => ?_) (fun h20 => ?_)
      · refine lv_iinc (v := nI (k + 1)) hx hb d_RL_send_43 hl (k := 0) rfl (nI_1 k) (by decide) rfl (fun ls hl => ?_)
        have hl : lv_has ls 7 [(6, .int (nI (k + 1))), (0, .ref (qa_a y 8 0)), (1, .int (nI j)), (2, .int x), (3, .int (nI 0)), (4, .int P), (5, .int 2)] := hl
        refine lv_goto hx hb d_RL_send_46 rfl ?_
        exact ih (k + 1) u H locs ls (by omega) hC ⟨hI.1, lt_s hI.2.1 (fun h0 => by rw [h0] at h20; exact absurd rfl h20), fun q hq => hI.2.2 q (fun i hi => hq i (by omega))⟩ (lv_sub hl [0, 1, 2, 3, 4, 5, 6] rfl)
      · refine lv_aload_n hx hb d_RL_send_23 rfl (lv_at hl 1 rfl) ?_
        refine qa_get (k := 8) (i := 0) (f := 2) (val := .ref (qa_a y 9 0)) E hC Nat.one_pos rfl rfl (by decide) f_RL_17 rfl rfl d_RL_send_24 ?_
        refine lv_aload_n hx hb d_RL_send_27 rfl (lv_at hl 1 rfl) ?_
        refine lv_iload_n hx hb d_RL_send_28 rfl (lv_at hl 4 rfl) ?_
        refine lv_iload hx hb d_RL_send_29 (lv_at hl 0 rfl) ?_
        refine qa_pV (k := 8) (i := 0) (As := [.int (nI 0), .int (nI k)]) E hC (c_RL_placeOf l y u (nI 0) (nI k)) Nat.one_pos rfl rfl k_RL_74 (qa_fitR (by decide) (by decide)) rfl hl.1 rfl (Nat.le_of_ble_eq_true rfl) d_RL_send_31 ?_
        refine lv_aload_n hx hb d_RL_send_34 rfl (lv_at hl 1 rfl) ?_
        refine lv_iload_n hx hb d_RL_send_35 rfl (lv_at hl 2 rfl) ?_
        refine lv_iload_n hx hb d_RL_send_36 rfl (lv_at hl 3 rfl) ?_
        refine lv_iload hx hb d_RL_send_37 (lv_at hl 0 rfl) ?_
        refine qa_pV (k := 8) (i := 0) (As := [.int (nI j), .int x, .int (nI k)]) E hC (c_RL_got l y u j k x hj hk) Nat.one_pos rfl rfl k_RL_77 (qa_fitR (by decide) (by decide)) rfl hl.1 rfl (Nat.le_of_ble_eq_true rfl) d_RL_send_39 ?_
        refine qa_ist (k := 9) (i := 0) (j := (0 * qa_n y + k)) E hC Nat.one_pos rfl rfl (by rw [pk_mul, nI_add]) (show 0 * qa_n y + k < qa_h y by omega) d_RL_send_42 (fun H locs hC => ?_)
        refine lv_iinc (v := nI (k + 1)) hx hb d_RL_send_43 hl (k := 0) rfl (nI_1 k) (by decide) rfl (fun ls hl => ?_)
        have hl : lv_has ls 7 [(6, .int (nI (k + 1))), (0, .ref (qa_a y 8 0)), (1, .int (nI j)), (2, .int x), (3, .int (nI 0)), (4, .int P), (5, .int 2)] := hl
        refine lv_goto hx hb d_RL_send_46 rfl ?_
        refine ih (k + 1) _ H locs ls (by omega) hC ⟨fun a ha => ?_, lt_s (fun i hi h0 => ?_) (fun h0 => ?_), fun q hq => ?_⟩ (lv_sub hl [0, 1, 2, 3, 4, 5, 6] rfl)
        · rw [qa_up_kk ha]; exact hI.1 a ha
        · rw [qa_up_f (by omega)]; exact hI.2.1 i hi h0
        · rw [qa_up_s, qm_gt_n (hI.1 2 (by decide)) (by rw [hI.1 8 (by decide)])]
        · rw [qa_up_f (hq k (by omega))]; exact hI.2.2 q (fun i hi => hq i (by omega))
  refine lv_iconst (v := 0) hx hb d_RL_send_0 (by decide) ?_
  refine lv_istore hx hb d_RL_send_1 hl (by decide) rfl (fun ls hl => ?_)
  have hl : lv_has ls 7 [(6, .int 0), (0, .ref (qa_a y 8 0)), (1, .int (nI j)), (2, .int x), (3, .int (nI 0)), (4, .int P), (5, .int 2)] := hl
  exact loop (qa_n y) 0 v _ _ ls (by omega) hC ⟨fun _ _ => rfl, lt_0, fun _ _ => rfl⟩ (lv_sub hl [0, 1, 2, 3, 4, 5, 6] rfl)
end
section
def bt (x : Int32) (i : Nat) : Bool := x.toBitVec.getLsbD i
theorem b_ext {x y : Int32} (h : ∀ i, i < 32 → bt x i = bt y i) : x = y := Int32.toBitVec_inj.mp (BitVec.eq_of_getLsbD_eq (fun i hi => h i hi))
theorem b_or (x y : Int32) (i : Nat) : bt (x ||| y) i = (bt x i || bt y i) := by unfold bt; rw [Int32.toBitVec_or, BitVec.getLsbD_or]
theorem b_and (x y : Int32) (i : Nat) : bt (x &&& y) i = (bt x i && bt y i) := by unfold bt; rw [Int32.toBitVec_and, BitVec.getLsbD_and]
theorem b_xor (x y : Int32) (i : Nat) : bt (x ^^^ y) i = (bt x i ^^ bt y i) := by unfold bt; rw [Int32.toBitVec_xor, BitVec.getLsbD_xor]
theorem b_big {x : Int32} {i : Nat} (h : 32 ≤ i) : bt x i = false := BitVec.getLsbD_of_ge _ _ h
theorem b_255 (i : Nat) : bt 255 i = decide (i < 8) := by
  rcases Nat.lt_or_ge i 32 with h | h
  · exact (by decide +kernel : ∀ i, i < 32 → bt 255 i = decide (i < 8)) i h
  · rw [b_big h, decide_eq_false (by omega)]
theorem b_65535 (i : Nat) : bt 65535 i = decide (i < 16) := by
  rcases Nat.lt_or_ge i 32 with h | h
  · exact (by decide +kernel : ∀ i, i < 32 → bt 65535 i = decide (i < 16)) i h
  · rw [b_big h, decide_eq_false (by omega)]
theorem b_m1 : ∀ i, i < 32 → bt (-1) i = true := by decide +kernel
theorem b_0 (i : Nat) : bt 0 i = false := BitVec.getLsbD_zero
theorem s_l : ∀ n, n < 32 → ((nI n &&& 31).toBitVec.smod 32).toNat = n := by decide +kernel
theorem s_u : ∀ n, n < 32 → (((nI n).toUInt32 &&& Int32.toUInt32 31).toBitVec % 32).toNat = n := by decide +kernel
theorem b_shl (n : Nat) (hn : n < 32) (x : Int32) {i : Nat} (hi : i < 32) : bt (x <<< (nI n &&& 31)) i = (decide (n ≤ i) && bt x (i - n)) := by
  unfold bt
  rw [Int32.toBitVec_shiftLeft]
  show (x.toBitVec <<< ((nI n &&& 31).toBitVec.smod 32).toNat).getLsbD i = _
  rw [s_l n hn, BitVec.getLsbD_shiftLeft]
  rcases Nat.lt_or_ge i n with h | h
  · simp [h, Nat.not_le.mpr h]
  · simp [hi, h, Nat.not_lt.mpr h]
theorem b_ushr (n : Nat) (hn : n < 32) (x : Int32) (i : Nat) : bt ((x.toUInt32 >>> ((nI n).toUInt32 &&& Int32.toUInt32 31)).toInt32) i = bt x (n + i) := by
  show (x.toUInt32 >>> ((nI n).toUInt32 &&& Int32.toUInt32 31)).toBitVec.getLsbD i = x.toUInt32.toBitVec.getLsbD (n + i)
  rw [UInt32.toBitVec_shiftRight]
  show (x.toUInt32.toBitVec >>> (((nI n).toUInt32 &&& Int32.toUInt32 31).toBitVec % 32).toNat).getLsbD i = _
  rw [s_u n hn, BitVec.getLsbD_ushiftRight]
theorem b_sshr (n : Nat) (hn : n < 32) (x : Int32) {i : Nat} (hi : i < 32) : bt (x >>> (nI n &&& 31)) i = if n + i < 32 then bt x (n + i) else bt x 31 := by
  unfold bt
  rw [Int32.toBitVec_shiftRight]
  show (x.toBitVec.sshiftRight ((nI n &&& 31).toBitVec.smod 32).toNat).getLsbD i = _
  rw [s_l n hn, BitVec.getLsbD_sshiftRight, BitVec.msb_eq_getLsbD_last]
  simp [hi]
theorem b_shl8 (x : Int32) {i : Nat} (hi : i < 32) : bt (x <<< ((8 : Int32) &&& 31)) i = (decide (8 ≤ i) && bt x (i - 8)) := b_shl 8 (by omega) x hi
theorem b_shl16 (x : Int32) {i : Nat} (hi : i < 32) : bt (x <<< ((16 : Int32) &&& 31)) i = (decide (16 ≤ i) && bt x (i - 16)) := b_shl 16 (by omega) x hi
theorem b_shl24 (x : Int32) {i : Nat} (hi : i < 32) : bt (x <<< ((24 : Int32) &&& 31)) i = (decide (24 ≤ i) && bt x (i - 24)) := b_shl 24 (by omega) x hi
theorem b_sshr8 (x : Int32) {i : Nat} (hi : i < 32) : bt (x >>> ((8 : Int32) &&& 31)) i = if 8 + i < 32 then bt x (8 + i) else bt x 31 := b_sshr 8 (by omega) x hi
theorem b_1 : ∀ i, i < 32 → bt 1 i = decide (i = 0) := by decide +kernel
theorem qm_in_bt (x : Int32) {i : Nat} (hi : i < 31) : qm_in x (nI i) = bt x i := by
  have h : bt ((x >>> (nI i &&& 31)) &&& 1) 0 = bt x i := by
    rw [b_and, b_sshr i (by omega) x (by omega), if_pos (by omega), b_1 0 (by omega)]
    simp
  unfold qm_in
  by_cases e : (x >>> (nI i &&& 31)) &&& 1 = 0
  · rw [decide_eq_true e]
    rw [e, b_0] at h
    rw [← h]
    rfl
  · rw [decide_eq_false e]
    cases q : bt x i with
    | true => rfl
    | false =>
      refine absurd (b_ext (fun j hj => ?_)) e
      rw [b_0]
      by_cases z : j = 0
      · subst z
        rw [h, q]
      · rw [b_and, b_1 j hj, decide_eq_false z, Bool.and_false]
theorem qm_in_and (x y : Int32) {i : Nat} (hi : i < 31) : qm_in (x &&& y) (nI i) = (qm_in x (nI i) && qm_in y (nI i)) := by
  rw [qm_in_bt _ hi, qm_in_bt _ hi, qm_in_bt _ hi, b_and]
theorem qm_in_or (x y : Int32) {i : Nat} (hi : i < 31) : qm_in (x ||| y) (nI i) = (qm_in x (nI i) || qm_in y (nI i)) := by
  rw [qm_in_bt _ hi, qm_in_bt _ hi, qm_in_bt _ hi, b_or]
theorem qm_in_not (x : Int32) {i : Nat} (hi : i < 31) : qm_in (x ^^^ (-1)) (nI i) = !qm_in x (nI i) := by
  rw [qm_in_bt _ hi, qm_in_bt _ hi, b_xor, b_m1 i (by omega)]
  cases bt x i <;> rfl
theorem qm_in_one {a i : Nat} (ha : a < 31) (hi : i < 31) : qm_in (1 <<< (nI a &&& 31)) (nI i) = decide (i = a) := by
  rw [qm_in_bt _ hi, b_shl a (by omega) 1 (by omega), b_1 _ (by omega)]
  by_cases e : i = a
  · subst e
    simp
  · rw [decide_eq_false e]
    by_cases h : a ≤ i
    · rw [decide_eq_true h, decide_eq_false (by omega)]
      rfl
    · rw [decide_eq_false h]
      rfl
theorem qm_in_ad (P : Int32) {a i : Nat} (ha : a < 31) (hi : i < 31) : qm_in (qm_ad P a) (nI i) = (qm_in P (nI i) || decide (i = a)) := by
  unfold qm_ad
  rw [qm_in_or _ _ hi, qm_in_one ha hi]
theorem qm_in_0 {i : Nat} (hi : i < 31) : qm_in 0 (nI i) = false := by rw [qm_in_bt _ hi, b_0]
/-- whom node i hears of a path: its members, not on the path, not itself -/
def qm_rel (mem P : Int32) (i : Nat) : Int32 := (mem &&& (P ^^^ (-1))) &&& (((1 : Int32) <<< (nI i &&& 31)) ^^^ (-1))
theorem qm_in_rel (mem P : Int32) {i j : Nat} (hi : i < 31) (hj : j < 31) : qm_in (qm_rel mem P i) (nI j) = ((qm_in mem (nI j) && !qm_in P (nI j)) && !decide (j = i)) := by
  unfold qm_rel
  rw [qm_in_and _ _ hj, qm_in_and _ _ hj, qm_in_not _ hj, qm_in_not _ hj, qm_in_one hi hj]
/-- what a node holds, and then what it makes of each node of a set that follows -/
def qm_ls (p : Nat → Bool) (own : Int32) (f : Nat → Int32) (k : Nat) : List Int32 := own :: ((List.range k).filter p).map f
theorem qm_ls_t {p : Nat → Bool} {own : Int32} {f : Nat → Int32} {k : Nat} (h : p k = true) : qm_ls p own f (k + 1) = qm_ls p own f k ++ [f k] := by
  unfold qm_ls
  rw [List.range_succ, List.filter_append]
  simp [h]
theorem qm_ls_f {p : Nat → Bool} {own : Int32} {f : Nat → Int32} {k : Nat} (h : p k = false) : qm_ls p own f (k + 1) = qm_ls p own f k := by
  unfold qm_ls
  rw [List.range_succ, List.filter_append]
  simp [h]
theorem qm_ls_len {p : Nat → Bool} {own : Int32} {f : Nat → Int32} {i : Nat} (hi : p i = false) (k : Nat) : (qm_ls p own f k).length ≤ if i < k then k else k + 1 := by
  induction k with
  | zero => simp [qm_ls]
  | succ k ih =>
    cases h : p k with
    | true =>
      have hne : i ≠ k := fun e => by rw [e, h] at hi; cases hi
      rw [qm_ls_t h, List.length_append]
      simp only [List.length_cons, List.length_nil]
      split at ih <;> split <;> omega
    | false =>
      rw [qm_ls_f h]
      split at ih <;> split <;> omega
theorem qm_ls_ext {p q : Nat → Bool} {own : Int32} {f g : Nat → Int32} {k : Nat} (hp : ∀ j, j < k → p j = q j) (hf : ∀ j, j < k → q j = true → f j = g j) : qm_ls p own f k = qm_ls q own g k := by
  induction k with
  | zero => rfl
  | succ k ih =>
    have e := ih (fun j hj => hp j (by omega)) (fun j hj => hf j (by omega))
    cases h : q k with
    | true => rw [qm_ls_t h, qm_ls_t (by rw [hp k (by omega)]; exact h), e, hf k (by omega) h]
    | false => rw [qm_ls_f h, qm_ls_f (by rw [hp k (by omega)]; exact h), e]
def qm_mk1 (n : Nat) (h : Nat → Int32) (mem P : Int32) (i r : Nat) : Int32 := qm_maj (qm_ls (fun j => qm_in (qm_rel mem P i) (nI j)) (h (r * n + i)) (fun j => h ((r * n + 1 + j) * n + i)) n)
def qm_mk2 (n : Nat) (h : Nat → Int32) (mem P : Int32) (i : Nat) : Int32 := qm_maj (qm_ls (fun j => qm_in (qm_rel mem P i) (nI j)) (h (0 * n + i)) (fun j => qm_mk1 n h mem (qm_ad P j) i (0 * n + 1 + j)) n)
end
section
set_option maxHeartbeats 4000000 in
set_option maxRecDepth 100000 in
theorem c_RL_make0 (l : Launch) (y : qa_L) (v : qa_M) (i : Nat) (r : Nat) (P : Int32) (hi : i < qa_n y) (hrow : r * qa_n y + qa_n y ≤ qa_h y) : qa_Mi l y_RL_make b_RL_make 10 (some .int) 2 [.ref (qa_a y 8 0), .ref (qa_a y 2 i), .int (nI r), .int P, .int 0] y v (fun q u => q = v 9 0 (r * qa_n y + i) ∧ u = v) := by
  refine qa_ofMi (plainFor_of_name (by decide)) (Nat.le_of_ble_eq_true rfl) ?_
  intro p e s m below meth c ls E hr hlocks hC hl
  have E : qa_E p m c b_RL_make 10 s _ "VotedFrames$Relay" y := E
  have F := E.1
  have hx := F.1
  have hb := F.2.1
  have hown : s.vm.findClass "VotedFrames$Relay" = some m.cls := F.2.2.2.1
  have hts := F.2.2.2.2
  have hn4 : 4 ≤ qa_n y := E.2.1.2.2.1
  have hn7 : qa_n y ≤ 7 := E.2.1.2.2.2.1
  have hl : lv_has ls 10 [(0, .ref (qa_a y 8 0)), (1, .ref (qa_a y 2 i)), (2, .int (nI r)), (3, .int P), (4, .int 0)] := hl
  have hh31 := qa_h_lt E.2.1
  have hb0 : r * qa_n y + qa_n y ≤ qa_h y := hrow
  refine lv_aload_n hx hb d_RL_make_0 rfl (lv_at hl 0 rfl) ?_
  refine qa_get (k := 8) (i := 0) (f := 2) (val := .ref (qa_a y 9 0)) E hC Nat.one_pos rfl rfl (by decide) f_RL_17 rfl rfl d_RL_make_1 ?_
  refine lv_aload_n hx hb d_RL_make_4 rfl (lv_at hl 0 rfl) ?_
  refine lv_iload_n hx hb d_RL_make_5 rfl (lv_at hl 2 rfl) ?_
  refine lv_aload_n hx hb d_RL_make_6 rfl (lv_at hl 1 rfl) ?_
  refine qa_get (k := 2) (i := i) (f := 0) (val := .int (nI i)) E hC hi rfl rfl (by decide) f_RL_83 rfl rfl d_RL_make_7 ?_
  refine qa_pV (k := 8) (i := 0) (As := [.int (nI r), .int (nI i)]) E hC (c_RL_placeOf l y v (nI r) (nI i)) Nat.one_pos rfl rfl k_RL_74 (qa_fitR (by decide) (by decide)) rfl hl.1 rfl (Nat.le_of_ble_eq_true rfl) d_RL_make_10 ?_
  refine qa_ild (k := 9) (i := 0) (j := (r * qa_n y + i)) E hC Nat.one_pos rfl rfl (by rw [pk_mul, nI_add]) (show r * qa_n y + i < qa_h y by omega) d_RL_make_13 ?_
  refine lv_istore hx hb d_RL_make_14 hl (by decide) rfl (fun ls hl => ?_)
  have hl : lv_has ls 10 [(5, .int (v 9 0 (r * qa_n y + i))), (0, .ref (qa_a y 8 0)), (1, .ref (qa_a y 2 i)), (2, .int (nI r)), (3, .int P), (4, .int 0)] := hl
  refine lv_iload hx hb d_RL_make_16 (lv_at hl 5 rfl) ?_
  refine lv_if_gt hx hb d_RL_make_18 rfl (fun h9 => absurd h9 (by decide)) (fun _ => ?_)
  refine lv_iload hx hb d_RL_make_21 (lv_at hl 0 rfl) ?_
  exact qa_mret E hC hr hlocks ⟨rfl, rfl⟩ d_RL_make_23

set_option maxHeartbeats 4000000 in
set_option maxRecDepth 100000 in
theorem c_RL_make1 (l : Launch) (y : qa_L) (v : qa_M) (i : Nat) (r : Nat) (P : Int32) (hi : i < qa_n y) (hm : 1 < qa_m y + 1) (hrow : (r * qa_n y + qa_n y) * qa_n y + qa_n y ≤ qa_h y) : qa_Mi l y_RL_make b_RL_make 10 (some .int) 3 [.ref (qa_a y 8 0), .ref (qa_a y 2 i), .int (nI r), .int P, .int 1] y v (fun q u => q = qm_mk1 (qa_n y) (v 9 0) (v 2 i 11) P i r ∧ ∀ a b, ¬ (a = 11 ∧ b = 1) → u a b = v a b) := by
  refine qa_ofMi (plainFor_of_name (by decide)) (Nat.le_of_ble_eq_true rfl) ?_
  intro p e s m below meth c ls E hr hlocks hC hl
  have E : qa_E p m c b_RL_make 10 s _ "VotedFrames$Relay" y := E
  have F := E.1
  have hx := F.1
  have hb := F.2.1
  have hown : s.vm.findClass "VotedFrames$Relay" = some m.cls := F.2.2.2.1
  have hts := F.2.2.2.2
  have hn4 : 4 ≤ qa_n y := E.2.1.2.2.1
  have hn7 : qa_n y ≤ 7 := E.2.1.2.2.2.1
  have hl : lv_has ls 10 [(0, .ref (qa_a y 8 0)), (1, .ref (qa_a y 2 i)), (2, .int (nI r)), (3, .int P), (4, .int 1)] := hl
  have hh31 := qa_h_lt E.2.1
  have hb0 : r * qa_n y + qa_n y ≤ qa_h y := by rcases qm_n47 hn4 hn7 with e | e | e | e <;> rw [e] at hrow ⊢ <;> omega
  obtain ⟨G, hG⟩ : ∃ G : Nat → List Int32, G = qm_ls (fun j => qm_in (qm_rel (v 2 i 11) P i) (nI j)) (v 9 0 (r * qa_n y + i)) (fun j => v 9 0 ((r * qa_n y + 1 + j) * qa_n y + i)) := ⟨_, rfl⟩
  have gs : ∀ k, qm_in (qm_rel (v 2 i 11) P i) (nI k) = true → G (k + 1) = G k ++ [(fun j => v 9 0 ((r * qa_n y + 1 + j) * qa_n y + i)) k] := fun k h => by rw [hG]; exact qm_ls_t h
  have gn : ∀ k, qm_in (qm_rel (v 2 i 11) P i) (nI k) = false → G (k + 1) = G k := fun k h => by rw [hG]; exact qm_ls_f h
  have gi : qm_in (qm_rel (v 2 i 11) P i) (nI i) = false := by rw [qm_in_rel _ _ (by omega) (by omega)]; simp
  have gl : ∀ k, (G k).length ≤ if i < k then k else k + 1 := fun k => by rw [hG]; exact qm_ls_len gi k
  have gn1 : (G (qa_n y)).length ≤ qa_n y := by have := gl (qa_n y); rw [if_pos hi] at this; exact this
  have gk1 : ∀ k, k < qa_n y → qm_in (qm_rel (v 2 i 11) P i) (nI k) = true → (G k).length < qa_n y := by
    intro k hk h
    have h1 := gl (k + 1)
    rw [gs k h, List.length_append, List.length_cons, List.length_nil] at h1
    split at h1 <;> omega
  have g0 : G 0 = [(v 9 0 (r * qa_n y + i))] := by rw [hG]; rfl
  have loop : ∀ (d k : Nat) (u : qa_M) (H : Heap) (locs : List Loc) (ls : Array Slot), k + d = qa_n y → qa_C y u s H locs → ((∀ a b, ¬ (a = 11 ∧ b = 1) → u a b = v a b) ∧ qm_hd (u 11 1) (G k)) → lv_has ls 10 [(9, .int (nI k)), (8, .int (qm_rel (v 2 i 11) P i)), (7, .int (nI ((G k).length))), (6, .ref (qa_a y 11 1)), (5, .int (v 9 0 (r * qa_n y + i))), (0, .ref (qa_a y 8 0)), (1, .ref (qa_a y 2 i)), (2, .int (nI r)), (3, .int P), (4, .int 1)] → W p l e (qa_R 3) s m [.ref (qa_a y 8 0), .ref (qa_a y 2 i), .int (nI r), .int P, .int 1].toArray below meth c H locs 0 0 (MQ below (va_Qi (fun q u => q = qm_mk1 (qa_n y) (v 9 0) (v 2 i 11) P i r ∧ ∀ a b, ¬ (a = 11 ∧ b = 1) → u a b = v a b) (fun u t => qa_W y u t) (qa_A y)) [.ref (qa_a y 8 0), .ref (qa_a y 2 i), .int (nI r), .int P, .int 1].toArray s 0 0 (qa_A y)) (F0 m 64 ls []) := by
    intro d
    induction d with
    | zero =>
      intro k u H locs ls hkd hC hI hl
      obtain rfl : qa_n y = k := by omega
      have em : qm_mk1 (qa_n y) (v 9 0) (v 2 i 11) P i r = qm_maj (G (qa_n y)) := by rw [hG]; rfl
      rcases qm_mp_maj hI.2 (by omega) with ⟨e1, e2⟩ | ⟨p9, hp9, e1, e2⟩
      · have e3 : ¬ 0 ≤ qm_mp (u 11 1) (G (qa_n y)).length (nI (G (qa_n y)).length) := by rw [e1]; decide
        refine lv_iload hx hb d_RL_make_64 (lv_at hl 0 rfl) ?_
        refine lv_aload_n hx hb d_RL_make_66 rfl (lv_at hl 5 rfl) ?_
        refine qa_get (k := 8) (i := 0) (f := 0) (val := .ref (qa_a y 1 0)) E hC Nat.one_pos rfl rfl (by decide) f_RL_7 rfl rfl d_RL_make_67 ?_
        refine qa_len (k := 1) (i := 0) E hC Nat.one_pos rfl (v0 := nI (qa_n y)) rfl d_RL_make_70 ?_
        refine lv_icmp_ge hx hb d_RL_make_71 rfl (fun _ => ?_) (fun h9 => absurd (nI_le (Nat.le_refl _) (by omega)) h9)
        refine lv_aload hx hb d_RL_make_120 (lv_at hl 3 rfl) ?_
        refine lv_iload hx hb d_RL_make_122 (lv_at hl 2 rfl) ?_
        refine lv_iload hx hb d_RL_make_124 (lv_at hl 2 rfl) ?_
        refine qa_pNW (As := [.ref (qa_a y 11 1), .int (nI ((G (qa_n y)).length)), .int (nI ((G (qa_n y)).length))]) E hC (c_VF_majorityPlace_11 l y u 1 ((G (qa_n y)).length) (nI ((G (qa_n y)).length)) hm gn1) k_RL_86 (qa_fitR (by decide) (by decide)) rfl hl.1 rfl (Nat.le_of_ble_eq_true rfl) d_RL_make_126 ?_
        refine lv_istore hx hb d_RL_make_129 hl (by decide) rfl (fun ls hl => ?_)
        have hl : lv_has ls 10 [(9, .int (qm_mp (u 11 1) ((G (qa_n y)).length) (nI ((G (qa_n y)).length)))), (8, .int (qm_rel (v 2 i 11) P i)), (7, .int (nI ((G (qa_n y)).length))), (6, .ref (qa_a y 11 1)), (5, .int (v 9 0 (r * qa_n y + i))), (0, .ref (qa_a y 8 0)), (1, .ref (qa_a y 2 i)), (2, .int (nI r)), (3, .int P), (4, .int 1)] := hl
        refine lv_iload hx hb d_RL_make_131 (lv_at hl 0 rfl) ?_
        refine lv_if_ge hx hb d_RL_make_133 rfl (fun h9 => absurd h9 e3) (fun _ => ?_)
        refine lv_iconst (v := 0) hx hb d_RL_make_136 (by decide) ?_
        refine lv_goto hx hb d_RL_make_137 rfl ?_
        exact qa_mret E hC hr hlocks ⟨by rw [em, e2], hI.1⟩ d_RL_make_145
      · have e3 : 0 ≤ qm_mp (u 11 1) (G (qa_n y)).length (nI (G (qa_n y)).length) := by rw [e1]; exact nI_pos' (by omega)
        have hp9n : p9 < qa_n y := by omega
        refine lv_iload hx hb d_RL_make_64 (lv_at hl 0 rfl) ?_
        refine lv_aload_n hx hb d_RL_make_66 rfl (lv_at hl 5 rfl) ?_
        refine qa_get (k := 8) (i := 0) (f := 0) (val := .ref (qa_a y 1 0)) E hC Nat.one_pos rfl rfl (by decide) f_RL_7 rfl rfl d_RL_make_67 ?_
        refine qa_len (k := 1) (i := 0) E hC Nat.one_pos rfl (v0 := nI (qa_n y)) rfl d_RL_make_70 ?_
        refine lv_icmp_ge hx hb d_RL_make_71 rfl (fun _ => ?_) (fun h9 => absurd (nI_le (Nat.le_refl _) (by omega)) h9)
        refine lv_aload hx hb d_RL_make_120 (lv_at hl 3 rfl) ?_
        refine lv_iload hx hb d_RL_make_122 (lv_at hl 2 rfl) ?_
        refine lv_iload hx hb d_RL_make_124 (lv_at hl 2 rfl) ?_
        refine qa_pNW (As := [.ref (qa_a y 11 1), .int (nI ((G (qa_n y)).length)), .int (nI ((G (qa_n y)).length))]) E hC (c_VF_majorityPlace_11 l y u 1 ((G (qa_n y)).length) (nI ((G (qa_n y)).length)) hm gn1) k_RL_86 (qa_fitR (by decide) (by decide)) rfl hl.1 rfl (Nat.le_of_ble_eq_true rfl) d_RL_make_126 ?_
        refine lv_istore hx hb d_RL_make_129 hl (by decide) rfl (fun ls hl => ?_)
        have hl : lv_has ls 10 [(9, .int (qm_mp (u 11 1) ((G (qa_n y)).length) (nI ((G (qa_n y)).length)))), (8, .int (qm_rel (v 2 i 11) P i)), (7, .int (nI ((G (qa_n y)).length))), (6, .ref (qa_a y 11 1)), (5, .int (v 9 0 (r * qa_n y + i))), (0, .ref (qa_a y 8 0)), (1, .ref (qa_a y 2 i)), (2, .int (nI r)), (3, .int P), (4, .int 1)] := hl
        refine lv_iload hx hb d_RL_make_131 (lv_at hl 0 rfl) ?_
        refine lv_if_ge hx hb d_RL_make_133 rfl (fun _ => ?_) (fun h9 => absurd e3 h9)
        refine lv_aload hx hb d_RL_make_140 (lv_at hl 3 rfl) ?_
        refine lv_iload hx hb d_RL_make_142 (lv_at hl 0 rfl) ?_
        refine qa_ild (k := 11) (i := 1) (j := p9) E hC hm rfl rfl e1 hp9n d_RL_make_144 ?_
        exact qa_mret E hC hr hlocks ⟨by rw [em, e2], hI.1⟩ d_RL_make_145
    | succ d ih =>
      intro k u H locs ls hkd hC hI hl
      have hk : k < qa_n y := by omega
      refine lv_iload hx hb d_RL_make_64 (lv_at hl 0 rfl) ?_
      refine lv_aload_n hx hb d_RL_make_66 rfl (lv_at hl 5 rfl) ?_
      refine qa_get (k := 8) (i := 0) (f := 0) (val := .ref (qa_a y 1 0)) E hC Nat.one_pos rfl rfl (by decide) f_RL_7 rfl rfl d_RL_make_67 ?_
      refine qa_len (k := 1) (i := 0) E hC Nat.one_pos rfl (v0 := nI (qa_n y)) rfl d_RL_make_70 ?_
      refine lv_icmp_ge hx hb d_RL_make_71 rfl (fun h9 => absurd h9 (nI_ge hk (by omega))) (fun _ => ?_)
      refine lv_iload hx hb d_RL_make_74 (lv_at hl 1 rfl) ?_
      refine lv_iload hx hb d_RL_make_76 (lv_at hl 0 rfl) ?_
      refine qa_pN (As := [.int (qm_rel (v 2 i 11) P i), .int (nI k)]) E (c_VF_contains l (qm_rel (v 2 i 11) P i) (nI k)) k_RL_57 (qa_fitR (by decide) (by decide)) rfl hl.1 rfl (Nat.le_of_ble_eq_true rfl) d_RL_make_78 ?_
      refine lv_if_eq hx hb d_RL_make_81 rfl (fun h81 => ?_) (fun h81 => ?_)
      · refine lv_iinc (v := nI (k + 1)) hx hb d_RL_make_114 hl (k := 0) rfl (nI_1 k) (by decide) rfl (fun ls hl => ?_)
        have hl : lv_has ls 10 [(9, .int (nI (k + 1))), (8, .int (qm_rel (v 2 i 11) P i)), (7, .int (nI ((G k).length))), (6, .ref (qa_a y 11 1)), (5, .int (v 9 0 (r * qa_n y + i))), (0, .ref (qa_a y 8 0)), (1, .ref (qa_a y 2 i)), (2, .int (nI r)), (3, .int P), (4, .int 1)] := hl
        refine lv_goto hx hb d_RL_make_117 rfl ?_
        have e8 := gn k (qb_e0 h81)
        refine ih (k + 1) u H locs ls (by omega) hC ⟨hI.1, by rw [e8]; exact hI.2⟩ ?_
        rw [e8]
        exact lv_sub hl [0, 1, 2, 3, 4, 5, 6, 7, 8, 9] rfl
      · refine lv_aload hx hb d_RL_make_84 (lv_at hl 3 rfl) ?_
        refine lv_iload hx hb d_RL_make_86 (lv_at hl 2 rfl) ?_
        refine lv_aload_n hx hb d_RL_make_88 rfl (lv_at hl 5 rfl) ?_
        refine lv_aload_n hx hb d_RL_make_89 rfl (lv_at hl 6 rfl) ?_
        refine lv_aload_n hx hb d_RL_make_90 rfl (lv_at hl 5 rfl) ?_
        refine lv_iload_n hx hb d_RL_make_91 rfl (lv_at hl 7 rfl) ?_
        refine lv_iload hx hb d_RL_make_92 (lv_at hl 0 rfl) ?_
        refine qa_pV (k := 8) (i := 0) (As := [.int (nI r), .int (nI k)]) E hC (c_RL_follow l y u (nI r) (nI k)) Nat.one_pos rfl rfl k_RL_80 (qa_fitR (by decide) (by decide)) rfl hl.1 rfl (Nat.le_of_ble_eq_true rfl) d_RL_make_94 ?_
        refine lv_iload_n hx hb d_RL_make_97 rfl (lv_at hl 8 rfl) ?_
        refine lv_iconst (v := 1) hx hb d_RL_make_98 (by decide) ?_
        refine lv_iload hx hb d_RL_make_99 (lv_at hl 0 rfl) ?_
        refine lv_ishl hx hb d_RL_make_101 ?_
        refine lv_ior hx hb d_RL_make_102 ?_
        refine lv_iload hx hb d_RL_make_103 (lv_at hl 9 rfl) ?_
        refine lv_iconst (v := 1) hx hb d_RL_make_105 (by decide) ?_
        refine lv_isub hx hb d_RL_make_106 ?_
        have hkr := qb_n0 h81
        have hkl := gk1 k hk hkr
        rw [show nI r * nI (qa_n y) + 1 + nI k = nI (r * qa_n y + 1 + k) by rw [pk_mul, nI_1, nI_add]]
        rw [show (1 : Int32) - 1 = 0 by decide]
        refine qa_mV (k := 8) (i := 0) (As := [.ref (qa_a y 2 i), .int (nI (r * qa_n y + 1 + k)), .int (P ||| ((1 : Int32) <<< ((nI k) &&& 31))), .int 0]) E hC (c_RL_make0 l y u i (r * qa_n y + 1 + k) (P ||| ((1 : Int32) <<< ((nI k) &&& 31))) hi (by rcases qm_n47 hn4 hn7 with e | e | e | e <;> rw [e] at hrow hk ⊢ <;> omega)) Nat.one_pos rfl rfl k_RL_63 (qa_fitR (by decide) (by decide)) rfl hl.1 rfl (Nat.le_of_ble_eq_true rfl) d_RL_make_107 (fun r1 u1 H locs hp1 hC => ?_)
        have e5 : r1 = (fun j => v 9 0 ((r * qa_n y + 1 + j) * qa_n y + i)) k := by rw [hp1.1, hI.1 9 0 (fun z => absurd z.1 (by decide))]
        have e6 : ∀ a b, ¬ (a = 11 ∧ b = 1) → u1 a b = v a b := fun a b h => by rw [hp1.2]; exact hI.1 a b h
        have e7 : qm_hd (u1 11 1) (G k) := by rw [hp1.2]; exact hI.2
        refine qa_ist (k := 11) (i := 1) (j := ((G k).length)) E hC hm rfl rfl rfl hkl d_RL_make_110 (fun H locs hC => ?_)
        refine lv_iinc (v := nI (((G k).length) + 1)) hx hb d_RL_make_111 hl (k := 2) rfl (nI_1 ((G k).length)) (by decide) rfl (fun ls hl => ?_)
        have hl : lv_has ls 10 [(7, .int (nI (((G k).length) + 1))), (9, .int (nI k)), (8, .int (qm_rel (v 2 i 11) P i)), (6, .ref (qa_a y 11 1)), (5, .int (v 9 0 (r * qa_n y + i))), (0, .ref (qa_a y 8 0)), (1, .ref (qa_a y 2 i)), (2, .int (nI r)), (3, .int P), (4, .int 1)] := hl
        refine lv_iinc (v := nI (k + 1)) hx hb d_RL_make_114 hl (k := 1) rfl (nI_1 k) (by decide) rfl (fun ls hl => ?_)
        have hl : lv_has ls 10 [(9, .int (nI (k + 1))), (7, .int (nI (((G k).length) + 1))), (8, .int (qm_rel (v 2 i 11) P i)), (6, .ref (qa_a y 11 1)), (5, .int (v 9 0 (r * qa_n y + i))), (0, .ref (qa_a y 8 0)), (1, .ref (qa_a y 2 i)), (2, .int (nI r)), (3, .int P), (4, .int 1)] := hl
        refine lv_goto hx hb d_RL_make_117 rfl ?_
        have e8 := gs k hkr
        refine ih (k + 1) _ H locs ls (by omega) hC ⟨fun a b h => ?_, ?_⟩ ?_
        · rw [qa_up_ii (fun z => h z)]; exact e6 a b h
        · rw [e8]
          refine qm_hd_push e7 ?_ (fun q hq => by rw [qa_up_f (by omega)])
          rw [qa_up_s, e5]
        · rw [e8, show (G k ++ [(fun j => v 9 0 ((r * qa_n y + 1 + j) * qa_n y + i)) k]).length = (G k).length + 1 by simp]
          exact lv_sub hl [0, 2, 1, 3, 4, 5, 6, 7, 8, 9] rfl
  refine lv_aload_n hx hb d_RL_make_0 rfl (lv_at hl 0 rfl) ?_
  refine qa_get (k := 8) (i := 0) (f := 2) (val := .ref (qa_a y 9 0)) E hC Nat.one_pos rfl rfl (by decide) f_RL_17 rfl rfl d_RL_make_1 ?_
  refine lv_aload_n hx hb d_RL_make_4 rfl (lv_at hl 0 rfl) ?_
  refine lv_iload_n hx hb d_RL_make_5 rfl (lv_at hl 2 rfl) ?_
  refine lv_aload_n hx hb d_RL_make_6 rfl (lv_at hl 1 rfl) ?_
  refine qa_get (k := 2) (i := i) (f := 0) (val := .int (nI i)) E hC hi rfl rfl (by decide) f_RL_83 rfl rfl d_RL_make_7 ?_
  refine qa_pV (k := 8) (i := 0) (As := [.int (nI r), .int (nI i)]) E hC (c_RL_placeOf l y v (nI r) (nI i)) Nat.one_pos rfl rfl k_RL_74 (qa_fitR (by decide) (by decide)) rfl hl.1 rfl (Nat.le_of_ble_eq_true rfl) d_RL_make_10 ?_
  refine qa_ild (k := 9) (i := 0) (j := (r * qa_n y + i)) E hC Nat.one_pos rfl rfl (by rw [pk_mul, nI_add]) (show r * qa_n y + i < qa_h y by omega) d_RL_make_13 ?_
  refine lv_istore hx hb d_RL_make_14 hl (by decide) rfl (fun ls hl => ?_)
  have hl : lv_has ls 10 [(5, .int (v 9 0 (r * qa_n y + i))), (0, .ref (qa_a y 8 0)), (1, .ref (qa_a y 2 i)), (2, .int (nI r)), (3, .int P), (4, .int 1)] := hl
  refine lv_iload hx hb d_RL_make_16 (lv_at hl 5 rfl) ?_
  refine lv_if_gt hx hb d_RL_make_18 rfl (fun _ => ?_) (fun h9 => absurd (by decide) h9)
  refine lv_aload_n hx hb d_RL_make_24 rfl (lv_at hl 1 rfl) ?_
  refine qa_get (k := 8) (i := 0) (f := 3) (val := .ref (qa_a y 10 0)) E hC Nat.one_pos rfl rfl (by decide) f_RL_23 rfl rfl d_RL_make_25 ?_
  refine lv_iload hx hb d_RL_make_28 (lv_at hl 5 rfl) ?_
  refine qa_ald2 (k := 10) (i := 0) (j := 1) E hC Nat.one_pos rfl rfl rfl rfl rfl hm d_RL_make_30 ?_
  refine lv_astore hx hb d_RL_make_31 hl (by decide) rfl (fun ls hl => ?_)
  have hl : lv_has ls 10 [(6, .ref (qa_a y 11 1)), (5, .int (v 9 0 (r * qa_n y + i))), (0, .ref (qa_a y 8 0)), (1, .ref (qa_a y 2 i)), (2, .int (nI r)), (3, .int P), (4, .int 1)] := hl
  refine lv_aload hx hb d_RL_make_33 (lv_at hl 0 rfl) ?_
  refine lv_iconst (v := 0) hx hb d_RL_make_35 (by decide) ?_
  refine lv_iload hx hb d_RL_make_36 (lv_at hl 1 rfl) ?_
  refine qa_ist (k := 11) (i := 1) (j := 0) E hC hm rfl rfl rfl (show 0 < qa_n y by omega) d_RL_make_38 (fun H locs hC => ?_)
  refine lv_iconst (v := 1) hx hb d_RL_make_39 (by decide) ?_
  refine lv_istore hx hb d_RL_make_40 hl (by decide) rfl (fun ls hl => ?_)
  have hl : lv_has ls 10 [(7, .int 1), (6, .ref (qa_a y 11 1)), (5, .int (v 9 0 (r * qa_n y + i))), (0, .ref (qa_a y 8 0)), (1, .ref (qa_a y 2 i)), (2, .int (nI r)), (3, .int P), (4, .int 1)] := hl
  refine lv_aload_n hx hb d_RL_make_42 rfl (lv_at hl 4 rfl) ?_
  refine qa_get (k := 2) (i := i) (f := 11) (val := .int ((qa_up v 11 1 0 (v 9 0 (r * qa_n y + i))) 2 i 11)) E hC hi rfl rfl (by decide) f_RL_54 rfl rfl d_RL_make_43 ?_
  refine lv_iload_n hx hb d_RL_make_46 rfl (lv_at hl 6 rfl) ?_
  refine lv_iconst (v := -1) hx hb d_RL_make_47 (by decide) ?_
  refine lv_ixor hx hb d_RL_make_48 ?_
  refine lv_iand hx hb d_RL_make_49 ?_
  refine lv_iconst (v := 1) hx hb d_RL_make_50 (by decide) ?_
  refine lv_aload_n hx hb d_RL_make_51 rfl (lv_at hl 4 rfl) ?_
  refine qa_get (k := 2) (i := i) (f := 0) (val := .int (nI i)) E hC hi rfl rfl (by decide) f_RL_83 rfl rfl d_RL_make_52 ?_
  refine lv_ishl hx hb d_RL_make_55 ?_
  refine lv_iconst (v := -1) hx hb d_RL_make_56 (by decide) ?_
  refine lv_ixor hx hb d_RL_make_57 ?_
  refine lv_iand hx hb d_RL_make_58 ?_
  rw [qa_up_k (by decide)]
  refine W.eq (g2 := F0 m 59 ls [.int (qm_rel (v 2 i 11) P i)]) rfl ?_
  refine lv_istore hx hb d_RL_make_59 hl (by decide) rfl (fun ls hl => ?_)
  have hl : lv_has ls 10 [(8, .int (qm_rel (v 2 i 11) P i)), (7, .int 1), (6, .ref (qa_a y 11 1)), (5, .int (v 9 0 (r * qa_n y + i))), (0, .ref (qa_a y 8 0)), (1, .ref (qa_a y 2 i)), (2, .int (nI r)), (3, .int P), (4, .int 1)] := hl
  refine lv_iconst (v := 0) hx hb d_RL_make_61 (by decide) ?_
  refine lv_istore hx hb d_RL_make_62 hl (by decide) rfl (fun ls hl => ?_)
  have hl : lv_has ls 10 [(9, .int 0), (8, .int (qm_rel (v 2 i 11) P i)), (7, .int 1), (6, .ref (qa_a y 11 1)), (5, .int (v 9 0 (r * qa_n y + i))), (0, .ref (qa_a y 8 0)), (1, .ref (qa_a y 2 i)), (2, .int (nI r)), (3, .int P), (4, .int 1)] := hl
  refine loop (qa_n y) 0 _ H locs ls (by omega) hC ⟨fun a b h => qa_up_ii (fun z => h z), ?_⟩ ?_
  · rw [g0]
    intro q hq
    obtain rfl : q = 0 := by simp at hq; exact hq
    rw [qa_up_s]; rfl
  · rw [g0]
    have hl : lv_has ls 10 [(9, .int 0), (8, .int (qm_rel (v 2 i 11) P i)), (7, .int 1), (6, .ref (qa_a y 11 1)), (5, .int (v 9 0 (r * qa_n y + i))), (0, .ref (qa_a y 8 0)), (1, .ref (qa_a y 2 i)), (2, .int (nI r)), (3, .int P), (4, .int 1)] := hl
    exact lv_sub hl [0, 1, 2, 3, 4, 5, 6, 7, 8, 9] rfl

set_option maxHeartbeats 4000000 in
set_option maxRecDepth 100000 in
theorem c_RL_make2 (l : Launch) (y : qa_L) (v : qa_M) (i : Nat) (P : Int32) (hi : i < qa_n y) (hm : 2 < qa_m y + 1) (hrow : (qa_n y * qa_n y + qa_n y) * qa_n y + qa_n y ≤ qa_h y) : qa_Mi l y_RL_make b_RL_make 10 (some .int) 4 [.ref (qa_a y 8 0), .ref (qa_a y 2 i), .int (nI 0), .int P, .int 2] y v (fun q u => q = qm_mk2 (qa_n y) (v 9 0) (v 2 i 11) P i ∧ ∀ a b, ¬ (a = 11 ∧ (b = 1 ∨ b = 2)) → u a b = v a b) := by
  refine qa_ofMi (plainFor_of_name (by decide)) (Nat.le_of_ble_eq_true rfl) ?_
  intro p e s m below meth c ls E hr hlocks hC hl
  have E : qa_E p m c b_RL_make 10 s _ "VotedFrames$Relay" y := E
  have F := E.1
  have hx := F.1
  have hb := F.2.1
  have hown : s.vm.findClass "VotedFrames$Relay" = some m.cls := F.2.2.2.1
  have hts := F.2.2.2.2
  have hn4 : 4 ≤ qa_n y := E.2.1.2.2.1
  have hn7 : qa_n y ≤ 7 := E.2.1.2.2.2.1
  have hl : lv_has ls 10 [(0, .ref (qa_a y 8 0)), (1, .ref (qa_a y 2 i)), (2, .int (nI 0)), (3, .int P), (4, .int 2)] := hl
  have hh31 := qa_h_lt E.2.1
  have hb0 : 0 * qa_n y + qa_n y ≤ qa_h y := by rcases qm_n47 hn4 hn7 with e | e | e | e <;> rw [e] at hrow ⊢ <;> omega
  obtain ⟨G, hG⟩ : ∃ G : Nat → List Int32, G = qm_ls (fun j => qm_in (qm_rel (v 2 i 11) P i) (nI j)) (v 9 0 (0 * qa_n y + i)) (fun j => qm_mk1 (qa_n y) (v 9 0) (v 2 i 11) (qm_ad P j) i (0 * qa_n y + 1 + j)) := ⟨_, rfl⟩
  have gs : ∀ k, qm_in (qm_rel (v 2 i 11) P i) (nI k) = true → G (k + 1) = G k ++ [(fun j => qm_mk1 (qa_n y) (v 9 0) (v 2 i 11) (qm_ad P j) i (0 * qa_n y + 1 + j)) k] := fun k h => by rw [hG]; exact qm_ls_t h
  have gn : ∀ k, qm_in (qm_rel (v 2 i 11) P i) (nI k) = false → G (k + 1) = G k := fun k h => by rw [hG]; exact qm_ls_f h
  have gi : qm_in (qm_rel (v 2 i 11) P i) (nI i) = false := by rw [qm_in_rel _ _ (by omega) (by omega)]; simp
  have gl : ∀ k, (G k).length ≤ if i < k then k else k + 1 := fun k => by rw [hG]; exact qm_ls_len gi k
  have gn1 : (G (qa_n y)).length ≤ qa_n y := by have := gl (qa_n y); rw [if_pos hi] at this; exact this
  have gk1 : ∀ k, k < qa_n y → qm_in (qm_rel (v 2 i 11) P i) (nI k) = true → (G k).length < qa_n y := by
    intro k hk h
    have h1 := gl (k + 1)
    rw [gs k h, List.length_append, List.length_cons, List.length_nil] at h1
    split at h1 <;> omega
  have g0 : G 0 = [(v 9 0 (0 * qa_n y + i))] := by rw [hG]; rfl
  have loop : ∀ (d k : Nat) (u : qa_M) (H : Heap) (locs : List Loc) (ls : Array Slot), k + d = qa_n y → qa_C y u s H locs → ((∀ a b, ¬ (a = 11 ∧ (b = 1 ∨ b = 2)) → u a b = v a b) ∧ qm_hd (u 11 2) (G k)) → lv_has ls 10 [(9, .int (nI k)), (8, .int (qm_rel (v 2 i 11) P i)), (7, .int (nI ((G k).length))), (6, .ref (qa_a y 11 2)), (5, .int (v 9 0 (0 * qa_n y + i))), (0, .ref (qa_a y 8 0)), (1, .ref (qa_a y 2 i)), (2, .int (nI 0)), (3, .int P), (4, .int 2)] → W p l e (qa_R 4) s m [.ref (qa_a y 8 0), .ref (qa_a y 2 i), .int (nI 0), .int P, .int 2].toArray below meth c H locs 0 0 (MQ below (va_Qi (fun q u => q = qm_mk2 (qa_n y) (v 9 0) (v 2 i 11) P i ∧ ∀ a b, ¬ (a = 11 ∧ (b = 1 ∨ b = 2)) → u a b = v a b) (fun u t => qa_W y u t) (qa_A y)) [.ref (qa_a y 8 0), .ref (qa_a y 2 i), .int (nI 0), .int P, .int 2].toArray s 0 0 (qa_A y)) (F0 m 64 ls []) := by
    intro d
    induction d with
    | zero =>
      intro k u H locs ls hkd hC hI hl
      obtain rfl : qa_n y = k := by omega
      have em : qm_mk2 (qa_n y) (v 9 0) (v 2 i 11) P i = qm_maj (G (qa_n y)) := by rw [hG]; rfl
      rcases qm_mp_maj hI.2 (by omega) with ⟨e1, e2⟩ | ⟨p9, hp9, e1, e2⟩
      · have e3 : ¬ 0 ≤ qm_mp (u 11 2) (G (qa_n y)).length (nI (G (qa_n y)).length) := by rw [e1]; decide
        refine lv_iload hx hb d_RL_make_64 (lv_at hl 0 rfl) ?_
        refine lv_aload_n hx hb d_RL_make_66 rfl (lv_at hl 5 rfl) ?_
        refine qa_get (k := 8) (i := 0) (f := 0) (val := .ref (qa_a y 1 0)) E hC Nat.one_pos rfl rfl (by decide) f_RL_7 rfl rfl d_RL_make_67 ?_
        refine qa_len (k := 1) (i := 0) E hC Nat.one_pos rfl (v0 := nI (qa_n y)) rfl d_RL_make_70 ?_
        refine lv_icmp_ge hx hb d_RL_make_71 rfl (fun _ => ?_) (fun h9 => absurd (nI_le (Nat.le_refl _) (by omega)) h9)
        refine lv_aload hx hb d_RL_make_120 (lv_at hl 3 rfl) ?_
        refine lv_iload hx hb d_RL_make_122 (lv_at hl 2 rfl) ?_
        refine lv_iload hx hb d_RL_make_124 (lv_at hl 2 rfl) ?_
        refine qa_pNW (As := [.ref (qa_a y 11 2), .int (nI ((G (qa_n y)).length)), .int (nI ((G (qa_n y)).length))]) E hC (c_VF_majorityPlace_11 l y u 2 ((G (qa_n y)).length) (nI ((G (qa_n y)).length)) hm gn1) k_RL_86 (qa_fitR (by decide) (by decide)) rfl hl.1 rfl (Nat.le_of_ble_eq_true rfl) d_RL_make_126 ?_
        refine lv_istore hx hb d_RL_make_129 hl (by decide) rfl (fun ls hl => ?_)
        have hl : lv_has ls 10 [(9, .int (qm_mp (u 11 2) ((G (qa_n y)).length) (nI ((G (qa_n y)).length)))), (8, .int (qm_rel (v 2 i 11) P i)), (7, .int (nI ((G (qa_n y)).length))), (6, .ref (qa_a y 11 2)), (5, .int (v 9 0 (0 * qa_n y + i))), (0, .ref (qa_a y 8 0)), (1, .ref (qa_a y 2 i)), (2, .int (nI 0)), (3, .int P), (4, .int 2)] := hl
        refine lv_iload hx hb d_RL_make_131 (lv_at hl 0 rfl) ?_
        refine lv_if_ge hx hb d_RL_make_133 rfl (fun h9 => absurd h9 e3) (fun _ => ?_)
        refine lv_iconst (v := 0) hx hb d_RL_make_136 (by decide) ?_
        refine lv_goto hx hb d_RL_make_137 rfl ?_
        exact qa_mret E hC hr hlocks ⟨by rw [em, e2], hI.1⟩ d_RL_make_145
      · have e3 : 0 ≤ qm_mp (u 11 2) (G (qa_n y)).length (nI (G (qa_n y)).length) := by rw [e1]; exact nI_pos' (by omega)
        have hp9n : p9 < qa_n y := by omega
        refine lv_iload hx hb d_RL_make_64 (lv_at hl 0 rfl) ?_
        refine lv_aload_n hx hb d_RL_make_66 rfl (lv_at hl 5 rfl) ?_
        refine qa_get (k := 8) (i := 0) (f := 0) (val := .ref (qa_a y 1 0)) E hC Nat.one_pos rfl rfl (by decide) f_RL_7 rfl rfl d_RL_make_67 ?_
        refine qa_len (k := 1) (i := 0) E hC Nat.one_pos rfl (v0 := nI (qa_n y)) rfl d_RL_make_70 ?_
        refine lv_icmp_ge hx hb d_RL_make_71 rfl (fun _ => ?_) (fun h9 => absurd (nI_le (Nat.le_refl _) (by omega)) h9)
        refine lv_aload hx hb d_RL_make_120 (lv_at hl 3 rfl) ?_
        refine lv_iload hx hb d_RL_make_122 (lv_at hl 2 rfl) ?_
        refine lv_iload hx hb d_RL_make_124 (lv_at hl 2 rfl) ?_
        refine qa_pNW (As := [.ref (qa_a y 11 2), .int (nI ((G (qa_n y)).length)), .int (nI ((G (qa_n y)).length))]) E hC (c_VF_majorityPlace_11 l y u 2 ((G (qa_n y)).length) (nI ((G (qa_n y)).length)) hm gn1) k_RL_86 (qa_fitR (by decide) (by decide)) rfl hl.1 rfl (Nat.le_of_ble_eq_true rfl) d_RL_make_126 ?_
        refine lv_istore hx hb d_RL_make_129 hl (by decide) rfl (fun ls hl => ?_)
        have hl : lv_has ls 10 [(9, .int (qm_mp (u 11 2) ((G (qa_n y)).length) (nI ((G (qa_n y)).length)))), (8, .int (qm_rel (v 2 i 11) P i)), (7, .int (nI ((G (qa_n y)).length))), (6, .ref (qa_a y 11 2)), (5, .int (v 9 0 (0 * qa_n y + i))), (0, .ref (qa_a y 8 0)), (1, .ref (qa_a y 2 i)), (2, .int (nI 0)), (3, .int P), (4, .int 2)] := hl
        refine lv_iload hx hb d_RL_make_131 (lv_at hl 0 rfl) ?_
        refine lv_if_ge hx hb d_RL_make_133 rfl (fun _ => ?_) (fun h9 => absurd e3 h9)
        refine lv_aload hx hb d_RL_make_140 (lv_at hl 3 rfl) ?_
        refine lv_iload hx hb d_RL_make_142 (lv_at hl 0 rfl) ?_
        refine qa_ild (k := 11) (i := 2) (j := p9) E hC hm rfl rfl e1 hp9n d_RL_make_144 ?_
        exact qa_mret E hC hr hlocks ⟨by rw [em, e2], hI.1⟩ d_RL_make_145
    | succ d ih =>
      intro k u H locs ls hkd hC hI hl
      have hk : k < qa_n y := by omega
      refine lv_iload hx hb d_RL_make_64 (lv_at hl 0 rfl) ?_
      refine lv_aload_n hx hb d_RL_make_66 rfl (lv_at hl 5 rfl) ?_
      refine qa_get (k := 8) (i := 0) (f := 0) (val := .ref (qa_a y 1 0)) E hC Nat.one_pos rfl rfl (by decide) f_RL_7 rfl rfl d_RL_make_67 ?_
      refine qa_len (k := 1) (i := 0) E hC Nat.one_pos rfl (v0 := nI (qa_n y)) rfl d_RL_make_70 ?_
      refine lv_icmp_ge hx hb d_RL_make_71 rfl (fun h9 => absurd h9 (nI_ge hk (by omega))) (fun _ => ?_)
      refine lv_iload hx hb d_RL_make_74 (lv_at hl 1 rfl) ?_
      refine lv_iload hx hb d_RL_make_76 (lv_at hl 0 rfl) ?_
      refine qa_pN (As := [.int (qm_rel (v 2 i 11) P i), .int (nI k)]) E (c_VF_contains l (qm_rel (v 2 i 11) P i) (nI k)) k_RL_57 (qa_fitR (by decide) (by decide)) rfl hl.1 rfl (Nat.le_of_ble_eq_true rfl) d_RL_make_78 ?_
      refine lv_if_eq hx hb d_RL_make_81 rfl (fun h81 => ?_) (fun h81 => ?_)
      · refine lv_iinc (v := nI (k + 1)) hx hb d_RL_make_114 hl (k := 0) rfl (nI_1 k) (by decide) rfl (fun ls hl => ?_)
        have hl : lv_has ls 10 [(9, .int (nI (k + 1))), (8, .int (qm_rel (v 2 i 11) P i)), (7, .int (nI ((G k).length))), (6, .ref (qa_a y 11 2)), (5, .int (v 9 0 (0 * qa_n y + i))), (0, .ref (qa_a y 8 0)), (1, .ref (qa_a y 2 i)), (2, .int (nI 0)), (3, .int P), (4, .int 2)] := hl
        refine lv_goto hx hb d_RL_make_117 rfl ?_
        have e8 := gn k (qb_e0 h81)
        refine ih (k + 1) u H locs ls (by omega) hC ⟨hI.1, by rw [e8]; exact hI.2⟩ ?_
        rw [e8]
        exact lv_sub hl [0, 1, 2, 3, 4, 5, 6, 7, 8, 9] rfl
      · refine lv_aload hx hb d_RL_make_84 (lv_at hl 3 rfl) ?_
        refine lv_iload hx hb d_RL_make_86 (lv_at hl 2 rfl) ?_
        refine lv_aload_n hx hb d_RL_make_88 rfl (lv_at hl 5 rfl) ?_
        refine lv_aload_n hx hb d_RL_make_89 rfl (lv_at hl 6 rfl) ?_
        refine lv_aload_n hx hb d_RL_make_90 rfl (lv_at hl 5 rfl) ?_
        refine lv_iload_n hx hb d_RL_make_91 rfl (lv_at hl 7 rfl) ?_
        refine lv_iload hx hb d_RL_make_92 (lv_at hl 0 rfl) ?_
        refine qa_pV (k := 8) (i := 0) (As := [.int (nI 0), .int (nI k)]) E hC (c_RL_follow l y u (nI 0) (nI k)) Nat.one_pos rfl rfl k_RL_80 (qa_fitR (by decide) (by decide)) rfl hl.1 rfl (Nat.le_of_ble_eq_true rfl) d_RL_make_94 ?_
        refine lv_iload_n hx hb d_RL_make_97 rfl (lv_at hl 8 rfl) ?_
        refine lv_iconst (v := 1) hx hb d_RL_make_98 (by decide) ?_
        refine lv_iload hx hb d_RL_make_99 (lv_at hl 0 rfl) ?_
        refine lv_ishl hx hb d_RL_make_101 ?_
        refine lv_ior hx hb d_RL_make_102 ?_
        refine lv_iload hx hb d_RL_make_103 (lv_at hl 9 rfl) ?_
        refine lv_iconst (v := 1) hx hb d_RL_make_105 (by decide) ?_
        refine lv_isub hx hb d_RL_make_106 ?_
        have hkr := qb_n0 h81
        have hkl := gk1 k hk hkr
        rw [show nI 0 * nI (qa_n y) + 1 + nI k = nI (0 * qa_n y + 1 + k) by rw [pk_mul, nI_1, nI_add]]
        rw [show (2 : Int32) - 1 = 1 by decide]
        refine qa_mV (k := 8) (i := 0) (As := [.ref (qa_a y 2 i), .int (nI (0 * qa_n y + 1 + k)), .int (P ||| ((1 : Int32) <<< ((nI k) &&& 31))), .int 1]) E hC (c_RL_make1 l y u i (0 * qa_n y + 1 + k) (P ||| ((1 : Int32) <<< ((nI k) &&& 31))) hi (by omega) (by rcases qm_n47 hn4 hn7 with e | e | e | e <;> rw [e] at hrow hk ⊢ <;> omega)) Nat.one_pos rfl rfl k_RL_63 (qa_fitR (by decide) (by decide)) rfl hl.1 rfl (Nat.le_of_ble_eq_true rfl) d_RL_make_107 (fun r1 u1 H locs hp1 hC => ?_)
        have e5 : r1 = (fun j => qm_mk1 (qa_n y) (v 9 0) (v 2 i 11) (qm_ad P j) i (0 * qa_n y + 1 + j)) k := by rw [hp1.1, hI.1 9 0 (fun z => absurd z.1 (by decide)), hI.1 2 i (fun z => absurd z.1 (by decide))]; rfl
        have e6 : ∀ a b, ¬ (a = 11 ∧ (b = 1 ∨ b = 2)) → u1 a b = v a b := fun a b h => (hp1.2 a b (fun z => h ⟨z.1, Or.inl z.2⟩)).trans (hI.1 a b h)
        have e7 : qm_hd (u1 11 2) (G k) := by rw [hp1.2 11 2 (by decide)]; exact hI.2
        refine qa_ist (k := 11) (i := 2) (j := ((G k).length)) E hC hm rfl rfl rfl hkl d_RL_make_110 (fun H locs hC => ?_)
        refine lv_iinc (v := nI (((G k).length) + 1)) hx hb d_RL_make_111 hl (k := 2) rfl (nI_1 ((G k).length)) (by decide) rfl (fun ls hl => ?_)
        have hl : lv_has ls 10 [(7, .int (nI (((G k).length) + 1))), (9, .int (nI k)), (8, .int (qm_rel (v 2 i 11) P i)), (6, .ref (qa_a y 11 2)), (5, .int (v 9 0 (0 * qa_n y + i))), (0, .ref (qa_a y 8 0)), (1, .ref (qa_a y 2 i)), (2, .int (nI 0)), (3, .int P), (4, .int 2)] := hl
        refine lv_iinc (v := nI (k + 1)) hx hb d_RL_make_114 hl (k := 1) rfl (nI_1 k) (by decide) rfl (fun ls hl => ?_)
        have hl : lv_has ls 10 [(9, .int (nI (k + 1))), (7, .int (nI (((G k).length) + 1))), (8, .int (qm_rel (v 2 i 11) P i)), (6, .ref (qa_a y 11 2)), (5, .int (v 9 0 (0 * qa_n y + i))), (0, .ref (qa_a y 8 0)), (1, .ref (qa_a y 2 i)), (2, .int (nI 0)), (3, .int P), (4, .int 2)] := hl
        refine lv_goto hx hb d_RL_make_117 rfl ?_
        have e8 := gs k hkr
        refine ih (k + 1) _ H locs ls (by omega) hC ⟨fun a b h => ?_, ?_⟩ ?_
        · rw [qa_up_ii (fun z => h ⟨z.1, Or.inr z.2⟩)]; exact e6 a b h
        · rw [e8]
          refine qm_hd_push e7 ?_ (fun q hq => by rw [qa_up_f (by omega)])
          rw [qa_up_s, e5]
        · rw [e8, show (G k ++ [(fun j => qm_mk1 (qa_n y) (v 9 0) (v 2 i 11) (qm_ad P j) i (0 * qa_n y + 1 + j)) k]).length = (G k).length + 1 by simp]
          exact lv_sub hl [0, 2, 1, 3, 4, 5, 6, 7, 8, 9] rfl
  refine lv_aload_n hx hb d_RL_make_0 rfl (lv_at hl 0 rfl) ?_
  refine qa_get (k := 8) (i := 0) (f := 2) (val := .ref (qa_a y 9 0)) E hC Nat.one_pos rfl rfl (by decide) f_RL_17 rfl rfl d_RL_make_1 ?_
  refine lv_aload_n hx hb d_RL_make_4 rfl (lv_at hl 0 rfl) ?_
  refine lv_iload_n hx hb d_RL_make_5 rfl (lv_at hl 2 rfl) ?_
  refine lv_aload_n hx hb d_RL_make_6 rfl (lv_at hl 1 rfl) ?_
  refine qa_get (k := 2) (i := i) (f := 0) (val := .int (nI i)) E hC hi rfl rfl (by decide) f_RL_83 rfl rfl d_RL_make_7 ?_
  refine qa_pV (k := 8) (i := 0) (As := [.int (nI 0), .int (nI i)]) E hC (c_RL_placeOf l y v (nI 0) (nI i)) Nat.one_pos rfl rfl k_RL_74 (qa_fitR (by decide) (by decide)) rfl hl.1 rfl (Nat.le_of_ble_eq_true rfl) d_RL_make_10 ?_
  refine qa_ild (k := 9) (i := 0) (j := (0 * qa_n y + i)) E hC Nat.one_pos rfl rfl (by rw [pk_mul, nI_add]) (show 0 * qa_n y + i < qa_h y by omega) d_RL_make_13 ?_
  refine lv_istore hx hb d_RL_make_14 hl (by decide) rfl (fun ls hl => ?_)
  have hl : lv_has ls 10 [(5, .int (v 9 0 (0 * qa_n y + i))), (0, .ref (qa_a y 8 0)), (1, .ref (qa_a y 2 i)), (2, .int (nI 0)), (3, .int P), (4, .int 2)] := hl
  refine lv_iload hx hb d_RL_make_16 (lv_at hl 5 rfl) ?_
  refine lv_if_gt hx hb d_RL_make_18 rfl (fun _ => ?_) (fun h9 => absurd (by decide) h9)
  refine lv_aload_n hx hb d_RL_make_24 rfl (lv_at hl 1 rfl) ?_
  refine qa_get (k := 8) (i := 0) (f := 3) (val := .ref (qa_a y 10 0)) E hC Nat.one_pos rfl rfl (by decide) f_RL_23 rfl rfl d_RL_make_25 ?_
  refine lv_iload hx hb d_RL_make_28 (lv_at hl 5 rfl) ?_
  refine qa_ald2 (k := 10) (i := 0) (j := 2) E hC Nat.one_pos rfl rfl rfl rfl rfl hm d_RL_make_30 ?_
  refine lv_astore hx hb d_RL_make_31 hl (by decide) rfl (fun ls hl => ?_)
  have hl : lv_has ls 10 [(6, .ref (qa_a y 11 2)), (5, .int (v 9 0 (0 * qa_n y + i))), (0, .ref (qa_a y 8 0)), (1, .ref (qa_a y 2 i)), (2, .int (nI 0)), (3, .int P), (4, .int 2)] := hl
  refine lv_aload hx hb d_RL_make_33 (lv_at hl 0 rfl) ?_
  refine lv_iconst (v := 0) hx hb d_RL_make_35 (by decide) ?_
  refine lv_iload hx hb d_RL_make_36 (lv_at hl 1 rfl) ?_
  refine qa_ist (k := 11) (i := 2) (j := 0) E hC hm rfl rfl rfl (show 0 < qa_n y by omega) d_RL_make_38 (fun H locs hC => ?_)
  refine lv_iconst (v := 1) hx hb d_RL_make_39 (by decide) ?_
  refine lv_istore hx hb d_RL_make_40 hl (by decide) rfl (fun ls hl => ?_)
  have hl : lv_has ls 10 [(7, .int 1), (6, .ref (qa_a y 11 2)), (5, .int (v 9 0 (0 * qa_n y + i))), (0, .ref (qa_a y 8 0)), (1, .ref (qa_a y 2 i)), (2, .int (nI 0)), (3, .int P), (4, .int 2)] := hl
  refine lv_aload_n hx hb d_RL_make_42 rfl (lv_at hl 4 rfl) ?_
  refine qa_get (k := 2) (i := i) (f := 11) (val := .int ((qa_up v 11 2 0 (v 9 0 (0 * qa_n y + i))) 2 i 11)) E hC hi rfl rfl (by decide) f_RL_54 rfl rfl d_RL_make_43 ?_
  refine lv_iload_n hx hb d_RL_make_46 rfl (lv_at hl 6 rfl) ?_
  refine lv_iconst (v := -1) hx hb d_RL_make_47 (by decide) ?_
  refine lv_ixor hx hb d_RL_make_48 ?_
  refine lv_iand hx hb d_RL_make_49 ?_
  refine lv_iconst (v := 1) hx hb d_RL_make_50 (by decide) ?_
  refine lv_aload_n hx hb d_RL_make_51 rfl (lv_at hl 4 rfl) ?_
  refine qa_get (k := 2) (i := i) (f := 0) (val := .int (nI i)) E hC hi rfl rfl (by decide) f_RL_83 rfl rfl d_RL_make_52 ?_
  refine lv_ishl hx hb d_RL_make_55 ?_
  refine lv_iconst (v := -1) hx hb d_RL_make_56 (by decide) ?_
  refine lv_ixor hx hb d_RL_make_57 ?_
  refine lv_iand hx hb d_RL_make_58 ?_
  rw [qa_up_k (by decide)]
  refine W.eq (g2 := F0 m 59 ls [.int (qm_rel (v 2 i 11) P i)]) rfl ?_
  refine lv_istore hx hb d_RL_make_59 hl (by decide) rfl (fun ls hl => ?_)
  have hl : lv_has ls 10 [(8, .int (qm_rel (v 2 i 11) P i)), (7, .int 1), (6, .ref (qa_a y 11 2)), (5, .int (v 9 0 (0 * qa_n y + i))), (0, .ref (qa_a y 8 0)), (1, .ref (qa_a y 2 i)), (2, .int (nI 0)), (3, .int P), (4, .int 2)] := hl
  refine lv_iconst (v := 0) hx hb d_RL_make_61 (by decide) ?_
  refine lv_istore hx hb d_RL_make_62 hl (by decide) rfl (fun ls hl => ?_)
  have hl : lv_has ls 10 [(9, .int 0), (8, .int (qm_rel (v 2 i 11) P i)), (7, .int 1), (6, .ref (qa_a y 11 2)), (5, .int (v 9 0 (0 * qa_n y + i))), (0, .ref (qa_a y 8 0)), (1, .ref (qa_a y 2 i)), (2, .int (nI 0)), (3, .int P), (4, .int 2)] := hl
  refine loop (qa_n y) 0 _ H locs ls (by omega) hC ⟨fun a b h => qa_up_ii (fun z => h ⟨z.1, Or.inr z.2⟩), ?_⟩ ?_
  · rw [g0]
    intro q hq
    obtain rfl : q = 0 := by simp at hq; exact hq
    rw [qa_up_s]; rfl
  · rw [g0]
    have hl : lv_has ls 10 [(9, .int 0), (8, .int (qm_rel (v 2 i 11) P i)), (7, .int 1), (6, .ref (qa_a y 11 2)), (5, .int (v 9 0 (0 * qa_n y + i))), (0, .ref (qa_a y 8 0)), (1, .ref (qa_a y 2 i)), (2, .int (nI 0)), (3, .int P), (4, .int 2)] := hl
    exact lv_sub hl [0, 1, 2, 3, 4, 5, 6, 7, 8, 9] rfl
end
section
/-- the set of one node -/
def qm_one (s : Nat) : Int32 := (1 : Int32) <<< (nI s &&& 31)
def qm_SS (n : Nat) (g : Nat → Int32 → Nat → Int32) (s : Nat) (x : Int32) (R : Nat) (h : Nat → Int32) : Prop := match R with
  | 0 => qm_S0 n g (qm_one s) s x 0 h
  | 1 => qm_S1 n g (qm_one s) s x 0 h
  | _ => qm_S2 n g (qm_one s) s x 0 h
def qm_mkL (n : Nat) (h : Nat → Int32) (mem : Int32) (s i L : Nat) : Int32 := match L with
  | 0 => h (0 * n + i)
  | 1 => qm_mk1 n h mem (qm_one s) i 0
  | _ => qm_mk2 n h mem (qm_one s) i
/-- what node i makes of the path of s alone, bearing L: g j x i is what i gets when j sends it x -/
def qm_ag (n : Nat) (g : Nat → Int32 → Nat → Int32) (mem : Int32) (s : Nat) (x : Int32) (i L : Nat) : Int32 := match L with
  | 0 => g s x i
  | 1 => qm_maj (qm_ls (fun a => qm_in mem (nI a) && (!decide (a = i) && !decide (a = s))) (g s x i) (fun a => g a (g s x a) i) n)
  | _ => qm_maj (qm_ls (fun a => qm_in mem (nI a) && (!decide (a = i) && !decide (a = s))) (g s x i) (fun a => qm_maj (qm_ls (fun b => qm_in mem (nI b) && (!decide (b = i) && (!decide (b = s) && !decide (b = a)))) (g a (g s x a) i) (fun b => g b (g a (g s x a) b) i) n)) n)
theorem qm_in_one' {s i : Nat} (hs : s < 31) (hi : i < 31) : qm_in (qm_one s) (nI i) = decide (i = s) := qm_in_one hs hi
theorem qm_mkL_ag {n : Nat} {g : Nat → Int32 → Nat → Int32} {mem : Int32} {s : Nat} {x : Int32} {i L R : Nat} {h : Nat → Int32} (hn : n ≤ 7) (hs : s < n) (hi : i < n) (his : i ≠ s) (hLR : L ≤ R) (hR : R ≤ 2) (hL : L ≤ 2) (H : qm_SS n g s x R h) : qm_mkL n h mem s i L = qm_ag n g mem s x i L := by
  have pin : ∀ a, a < n → (qm_in (qm_rel mem (qm_one s) i) (nI a)) = (qm_in mem (nI a) && (!decide (a = i) && !decide (a = s))) := by
    intro a ha
    rw [qm_in_rel _ _ (by omega) (by omega), qm_in_one' (by omega) (by omega)]
    cases qm_in mem (nI a) <;> cases decide (a = i) <;> cases decide (a = s) <;> rfl
  have pin2 : ∀ a b, a < n → b < n → (qm_in (qm_rel mem (qm_ad (qm_one s) a) i) (nI b)) = (qm_in mem (nI b) && (!decide (b = i) && (!decide (b = s) && !decide (b = a)))) := by
    intro a b ha hb
    rw [qm_in_rel _ _ (by omega) (by omega), qm_in_ad _ (by omega) (by omega), qm_in_one' (by omega) (by omega)]
    cases qm_in mem (nI b) <;> cases decide (b = i) <;> cases decide (b = s) <;> cases decide (b = a) <;> rfl
  have h0 : qm_S0 n g (qm_one s) s x 0 h := by
    match R, H with
    | 0, H => exact H
    | 1, H => exact H.1
    | (_ + 2), H => exact H.1
  have e0 : h (0 * n + i) = g s x i := h0 i hi (by rw [qm_in_one' (by omega) (by omega)]; exact decide_eq_false his)
  have h1 : 1 ≤ R → ∀ a, a < n → ¬ a = s → qm_S0 n g (qm_ad (qm_one s) a) a (g s x a) (0 * n + 1 + a) h := by
    intro hR1 a ha has
    match R, H with
    | 0, H => omega
    | 1, H => exact H.2 a ha (by rw [qm_in_one' (by omega) (by omega)]; exact decide_eq_false has)
    | (_ + 2), H => exact (H.2 a ha (by rw [qm_in_one' (by omega) (by omega)]; exact decide_eq_false has)).1
  have e1 : 1 ≤ R → ∀ a, a < n → ¬ a = s → ¬ a = i → h ((0 * n + 1 + a) * n + i) = g a (g s x a) i := by
    intro hR1 a ha has hai
    refine h1 hR1 a ha has i hi ?_
    rw [qm_in_ad _ (by omega) (by omega), qm_in_one' (by omega) (by omega), decide_eq_false his, decide_eq_false (fun q => hai q.symm)]
    rfl
  match L with
  | 0 => exact e0
  | 1 =>
    show qm_maj _ = qm_maj _
    congr 1
    rw [e0]
    refine qm_ls_ext (fun a ha => pin a ha) (fun a ha q => ?_)
    simp only [Bool.and_eq_true, Bool.not_eq_true', decide_eq_false_iff_not] at q
    exact e1 hLR a ha q.2.2 q.2.1
  | (L + 2) =>
    have hR2 : R = 2 := by omega
    subst hR2
    show qm_maj _ = qm_maj _
    congr 1
    rw [e0]
    refine qm_ls_ext (fun a ha => pin a ha) (fun a ha q => ?_)
    simp only [Bool.and_eq_true, Bool.not_eq_true', decide_eq_false_iff_not] at q
    show qm_maj _ = qm_maj _
    congr 1
    rw [e1 (by omega) a ha q.2.2 q.2.1]
    refine qm_ls_ext (fun b hb => pin2 a b ha hb) (fun b hb q2 => ?_)
    simp only [Bool.and_eq_true, Bool.not_eq_true', decide_eq_false_iff_not] at q2
    obtain ⟨-, q3, q4, q5⟩ := q2
    have H2 := (H.2 a ha (by rw [qm_in_one' (by omega) (by omega)]; exact decide_eq_false q.2.2)).2 b hb (by rw [qm_in_ad _ (by omega) (by omega), qm_in_one' (by omega) (by omega), decide_eq_false q4, decide_eq_false q5]; rfl)
    refine H2 i hi ?_
    rw [qm_in_ad _ (by omega) (by omega), qm_in_ad _ (by omega) (by omega), qm_in_one' (by omega) (by omega), decide_eq_false his, decide_eq_false (fun z => q.2.1 z.symm), decide_eq_false (fun z => q3 z.symm)]
    rfl
end
section
set_option maxHeartbeats 4000000 in
set_option maxRecDepth 100000 in
theorem c_RL_spreadOut (l : Launch) (y : qa_L) (v : qa_M) (s0 : Nat) (x : Int32) (R : Nat) (hs0 : s0 < qa_n y) (hR : v 8 0 7 = nI R) (hRm : R ≤ qa_m y) : qa_Mv l y_RL_spreadOut b_RL_spreadOut 3 6 [.ref (qa_a y 8 0), .int (nI s0), .int x] y v (fun u => (∀ k, k ≠ 8 → k ≠ 9 → u k = v k) ∧ u 8 0 4 = nI s0 ∧ u 8 0 5 = x ∧ u 8 0 6 = v 8 0 6 ∧ u 8 0 7 = v 8 0 7 ∧ qm_SS (qa_n y) (qm_gt v) s0 x R (u 9 0)) := by
  refine qa_ofMv (plainFor_of_name (by decide)) (Nat.le_of_ble_eq_true rfl) ?_
  intro p e s m below meth c ls E hr hlocks hC hl
  have E : qa_E p m c b_RL_spreadOut 3 s _ "VotedFrames$Relay" y := E
  have F := E.1
  have hx := F.1
  have hb := F.2.1
  have hown : s.vm.findClass "VotedFrames$Relay" = some m.cls := F.2.2.2.1
  have hts := F.2.2.2.2
  have hn4 : 4 ≤ qa_n y := E.2.1.2.2.1
  have hn7 : qa_n y ≤ 7 := E.2.1.2.2.2.1
  have hl : lv_has ls 3 [(0, .ref (qa_a y 8 0)), (1, .int (nI s0)), (2, .int x)] := hl
  obtain ⟨b0, b1, b2⟩ := qm_hbd E.2.1
  have hm2 : qa_m y ≤ 2 := by have := E.2.1.2.2.2.2.1; omega
  rcases (show R = 0 ∨ R = 1 ∨ R = 2 by omega) with rfl | rfl | rfl
  · refine lv_aload_n hx hb d_RL_spreadOut_0 rfl (lv_at hl 0 rfl) ?_
    refine lv_iload_n hx hb d_RL_spreadOut_1 rfl (lv_at hl 1 rfl) ?_
    refine qa_put (k := 8) (i := 0) (f := 4) E hC Nat.one_pos rfl rfl (by decide) f_RL_44 rfl rfl rfl rfl d_RL_spreadOut_2 (fun H locs hC => ?_)
    refine lv_aload_n hx hb d_RL_spreadOut_5 rfl (lv_at hl 0 rfl) ?_
    refine lv_iload_n hx hb d_RL_spreadOut_6 rfl (lv_at hl 2 rfl) ?_
    refine qa_put (k := 8) (i := 0) (f := 5) E hC Nat.one_pos rfl rfl (by decide) f_RL_47 rfl rfl rfl rfl d_RL_spreadOut_7 (fun H locs hC => ?_)
    refine lv_aload_n hx hb d_RL_spreadOut_10 rfl (lv_at hl 0 rfl) ?_
    refine lv_iload_n hx hb d_RL_spreadOut_11 rfl (lv_at hl 1 rfl) ?_
    refine lv_iload_n hx hb d_RL_spreadOut_12 rfl (lv_at hl 2 rfl) ?_
    refine lv_iconst (v := 0) hx hb d_RL_spreadOut_13 (by decide) ?_
    refine lv_iconst (v := 1) hx hb d_RL_spreadOut_14 (by decide) ?_
    refine lv_iload_n hx hb d_RL_spreadOut_15 rfl (lv_at hl 1 rfl) ?_
    refine lv_ishl hx hb d_RL_spreadOut_16 ?_
    refine lv_aload_n hx hb d_RL_spreadOut_17 rfl (lv_at hl 0 rfl) ?_
    refine qa_get (k := 8) (i := 0) (f := 7) (val := .int ((qa_up (qa_up v 8 0 4 (nI s0)) 8 0 5 x) 8 0 7)) E hC Nat.one_pos rfl rfl (by decide) f_RL_29 rfl rfl d_RL_spreadOut_18 ?_
    rw [show (qa_up (qa_up v 8 0 4 (nI s0)) 8 0 5 x) 8 0 7 = 0 by rw [qa_up_f (by decide), qa_up_f (by decide), hR]; rfl]
    refine W.eq (g2 := F0 m 21 ls [.int 0, .int ((1 : Int32) <<< ((nI s0) &&& 31)), .int (nI 0), .int x, .int (nI s0), .ref (qa_a y 8 0)]) rfl ?_
    refine qa_mVv (k := 8) (i := 0) (As := [.int (nI s0), .int x, .int (nI 0), .int ((1 : Int32) <<< ((nI s0) &&& 31)), .int 0]) E hC (c_RL_send0 l y (qa_up (qa_up v 8 0 4 (nI s0)) 8 0 5 x) s0 x 0 ((1 : Int32) <<< ((nI s0) &&& 31)) hs0 (show 0 * qa_n y + qa_n y ≤ qa_h y by omega)) Nat.one_pos rfl rfl k_RL_50 (qa_fitR (by decide) (by decide)) rfl hl.1 rfl (Nat.le_of_ble_eq_true rfl) d_RL_spreadOut_21 (fun u1 H locs hp1 hC => ?_)
    have hg : qm_gt (qa_up (qa_up v 8 0 4 (nI s0)) 8 0 5 x) = qm_gt v := qm_gt_n (by rw [qa_up_kk (by decide), qa_up_kk (by decide)]) (by rw [qa_up_f (by decide), qa_up_f (by decide)])
    have h9 := hp1.2.1
    rw [hg] at h9
    exact qa_mvret E hC hr hlocks ⟨fun k h8 h9 => by rw [hp1.1 k h9, qa_up_kk h8, qa_up_kk h8], by rw [hp1.1 8 (by decide), qa_up_f (by decide), qa_up_s], by rw [hp1.1 8 (by decide), qa_up_s], by rw [hp1.1 8 (by decide), qa_up_f (by decide), qa_up_f (by decide)], by rw [hp1.1 8 (by decide), qa_up_f (by decide), qa_up_f (by decide)], h9⟩ d_RL_spreadOut_24
  · refine lv_aload_n hx hb d_RL_spreadOut_0 rfl (lv_at hl 0 rfl) ?_
    refine lv_iload_n hx hb d_RL_spreadOut_1 rfl (lv_at hl 1 rfl) ?_
    refine qa_put (k := 8) (i := 0) (f := 4) E hC Nat.one_pos rfl rfl (by decide) f_RL_44 rfl rfl rfl rfl d_RL_spreadOut_2 (fun H locs hC => ?_)
    refine lv_aload_n hx hb d_RL_spreadOut_5 rfl (lv_at hl 0 rfl) ?_
    refine lv_iload_n hx hb d_RL_spreadOut_6 rfl (lv_at hl 2 rfl) ?_
    refine qa_put (k := 8) (i := 0) (f := 5) E hC Nat.one_pos rfl rfl (by decide) f_RL_47 rfl rfl rfl rfl d_RL_spreadOut_7 (fun H locs hC => ?_)
    refine lv_aload_n hx hb d_RL_spreadOut_10 rfl (lv_at hl 0 rfl) ?_
    refine lv_iload_n hx hb d_RL_spreadOut_11 rfl (lv_at hl 1 rfl) ?_
    refine lv_iload_n hx hb d_RL_spreadOut_12 rfl (lv_at hl 2 rfl) ?_
    refine lv_iconst (v := 0) hx hb d_RL_spreadOut_13 (by decide) ?_
    refine lv_iconst (v := 1) hx hb d_RL_spreadOut_14 (by decide) ?_
    refine lv_iload_n hx hb d_RL_spreadOut_15 rfl (lv_at hl 1 rfl) ?_
    refine lv_ishl hx hb d_RL_spreadOut_16 ?_
    refine lv_aload_n hx hb d_RL_spreadOut_17 rfl (lv_at hl 0 rfl) ?_
    refine qa_get (k := 8) (i := 0) (f := 7) (val := .int ((qa_up (qa_up v 8 0 4 (nI s0)) 8 0 5 x) 8 0 7)) E hC Nat.one_pos rfl rfl (by decide) f_RL_29 rfl rfl d_RL_spreadOut_18 ?_
    rw [show (qa_up (qa_up v 8 0 4 (nI s0)) 8 0 5 x) 8 0 7 = 1 by rw [qa_up_f (by decide), qa_up_f (by decide), hR]; rfl]
    refine W.eq (g2 := F0 m 21 ls [.int 1, .int ((1 : Int32) <<< ((nI s0) &&& 31)), .int (nI 0), .int x, .int (nI s0), .ref (qa_a y 8 0)]) rfl ?_
    refine qa_mVv (k := 8) (i := 0) (As := [.int (nI s0), .int x, .int (nI 0), .int ((1 : Int32) <<< ((nI s0) &&& 31)), .int 1]) E hC (c_RL_send1 l y (qa_up (qa_up v 8 0 4 (nI s0)) 8 0 5 x) s0 x 0 ((1 : Int32) <<< ((nI s0) &&& 31)) hs0 (show (0 * qa_n y + qa_n y) * qa_n y + qa_n y ≤ qa_h y by have := b1 hRm; rcases qm_n47 hn4 hn7 with e | e | e | e <;> rw [e] at this ⊢ <;> omega)) Nat.one_pos rfl rfl k_RL_50 (qa_fitR (by decide) (by decide)) rfl hl.1 rfl (Nat.le_of_ble_eq_true rfl) d_RL_spreadOut_21 (fun u2 H locs hp2 hC => ?_)
    have hg : qm_gt (qa_up (qa_up v 8 0 4 (nI s0)) 8 0 5 x) = qm_gt v := qm_gt_n (by rw [qa_up_kk (by decide), qa_up_kk (by decide)]) (by rw [qa_up_f (by decide), qa_up_f (by decide)])
    have h9 := hp2.2.1
    rw [hg] at h9
    exact qa_mvret E hC hr hlocks ⟨fun k h8 h9 => by rw [hp2.1 k h9, qa_up_kk h8, qa_up_kk h8], by rw [hp2.1 8 (by decide), qa_up_f (by decide), qa_up_s], by rw [hp2.1 8 (by decide), qa_up_s], by rw [hp2.1 8 (by decide), qa_up_f (by decide), qa_up_f (by decide)], by rw [hp2.1 8 (by decide), qa_up_f (by decide), qa_up_f (by decide)], h9⟩ d_RL_spreadOut_24
  · refine lv_aload_n hx hb d_RL_spreadOut_0 rfl (lv_at hl 0 rfl) ?_
    refine lv_iload_n hx hb d_RL_spreadOut_1 rfl (lv_at hl 1 rfl) ?_
    refine qa_put (k := 8) (i := 0) (f := 4) E hC Nat.one_pos rfl rfl (by decide) f_RL_44 rfl rfl rfl rfl d_RL_spreadOut_2 (fun H locs hC => ?_)
    refine lv_aload_n hx hb d_RL_spreadOut_5 rfl (lv_at hl 0 rfl) ?_
    refine lv_iload_n hx hb d_RL_spreadOut_6 rfl (lv_at hl 2 rfl) ?_
    refine qa_put (k := 8) (i := 0) (f := 5) E hC Nat.one_pos rfl rfl (by decide) f_RL_47 rfl rfl rfl rfl d_RL_spreadOut_7 (fun H locs hC => ?_)
    refine lv_aload_n hx hb d_RL_spreadOut_10 rfl (lv_at hl 0 rfl) ?_
    refine lv_iload_n hx hb d_RL_spreadOut_11 rfl (lv_at hl 1 rfl) ?_
    refine lv_iload_n hx hb d_RL_spreadOut_12 rfl (lv_at hl 2 rfl) ?_
    refine lv_iconst (v := 0) hx hb d_RL_spreadOut_13 (by decide) ?_
    refine lv_iconst (v := 1) hx hb d_RL_spreadOut_14 (by decide) ?_
    refine lv_iload_n hx hb d_RL_spreadOut_15 rfl (lv_at hl 1 rfl) ?_
    refine lv_ishl hx hb d_RL_spreadOut_16 ?_
    refine lv_aload_n hx hb d_RL_spreadOut_17 rfl (lv_at hl 0 rfl) ?_
    refine qa_get (k := 8) (i := 0) (f := 7) (val := .int ((qa_up (qa_up v 8 0 4 (nI s0)) 8 0 5 x) 8 0 7)) E hC Nat.one_pos rfl rfl (by decide) f_RL_29 rfl rfl d_RL_spreadOut_18 ?_
    rw [show (qa_up (qa_up v 8 0 4 (nI s0)) 8 0 5 x) 8 0 7 = 2 by rw [qa_up_f (by decide), qa_up_f (by decide), hR]; rfl]
    refine W.eq (g2 := F0 m 21 ls [.int 2, .int ((1 : Int32) <<< ((nI s0) &&& 31)), .int (nI 0), .int x, .int (nI s0), .ref (qa_a y 8 0)]) rfl ?_
    refine qa_mVv (k := 8) (i := 0) (As := [.int (nI s0), .int x, .int (nI 0), .int ((1 : Int32) <<< ((nI s0) &&& 31)), .int 2]) E hC (c_RL_send2 l y (qa_up (qa_up v 8 0 4 (nI s0)) 8 0 5 x) s0 x ((1 : Int32) <<< ((nI s0) &&& 31)) hs0 (by have := b2 hRm; rcases qm_n47 hn4 hn7 with e | e | e | e <;> rw [e] at this ⊢ <;> omega)) Nat.one_pos rfl rfl k_RL_50 (qa_fitR (by decide) (by decide)) rfl hl.1 rfl (Nat.le_of_ble_eq_true rfl) d_RL_spreadOut_21 (fun u3 H locs hp3 hC => ?_)
    have hg : qm_gt (qa_up (qa_up v 8 0 4 (nI s0)) 8 0 5 x) = qm_gt v := qm_gt_n (by rw [qa_up_kk (by decide), qa_up_kk (by decide)]) (by rw [qa_up_f (by decide), qa_up_f (by decide)])
    have h9 := hp3.2.1
    rw [hg] at h9
    exact qa_mvret E hC hr hlocks ⟨fun k h8 h9 => by rw [hp3.1 k h9, qa_up_kk h8, qa_up_kk h8], by rw [hp3.1 8 (by decide), qa_up_f (by decide), qa_up_s], by rw [hp3.1 8 (by decide), qa_up_s], by rw [hp3.1 8 (by decide), qa_up_f (by decide), qa_up_f (by decide)], by rw [hp3.1 8 (by decide), qa_up_f (by decide), qa_up_f (by decide)], h9⟩ d_RL_spreadOut_24

set_option maxHeartbeats 4000000 in
set_option maxRecDepth 100000 in
theorem c_RL_agreedBy (l : Launch) (y : qa_L) (v : qa_M) (i s0 L : Nat) (hi : i < qa_n y) (hs0 : s0 < qa_n y) (hs4 : v 8 0 4 = nI s0) (hb9 : qm_bear (qa_m y) (v 2 i 11) = nI L) (hLm : L ≤ qa_m y) : qa_Mi l y_RL_agreedBy b_RL_agreedBy 3 (some .int) 5 [.ref (qa_a y 8 0), .int (nI i)] y v (fun q u => q = (if i = s0 then v 8 0 5 else if qm_in (v 2 i 11) (nI s0) = true then qm_mkL (qa_n y) (v 9 0) (v 2 i 11) s0 i L else 0) ∧ ∀ k, k ≠ 11 → u k = v k) := by
  refine qa_ofMi (plainFor_of_name (by decide)) (Nat.le_of_ble_eq_true rfl) ?_
  intro p e s m below meth c ls E hr hlocks hC hl
  have E : qa_E p m c b_RL_agreedBy 3 s _ "VotedFrames$Relay" y := E
  have F := E.1
  have hx := F.1
  have hb := F.2.1
  have hown : s.vm.findClass "VotedFrames$Relay" = some m.cls := F.2.2.2.1
  have hts := F.2.2.2.2
  have hn4 : 4 ≤ qa_n y := E.2.1.2.2.1
  have hn7 : qa_n y ≤ 7 := E.2.1.2.2.2.1
  have hl : lv_has ls 3 [(0, .ref (qa_a y 8 0)), (1, .int (nI i))] := hl
  obtain ⟨b0, b1, b2⟩ := qm_hbd E.2.1
  have hm2 : qa_m y ≤ 2 := by have := E.2.1.2.2.2.2.1; omega
  rcases (show L = 0 ∨ L = 1 ∨ L = 2 by omega) with rfl | rfl | rfl
  · refine lv_iload_n hx hb d_RL_agreedBy_0 rfl (lv_at hl 1 rfl) ?_
    refine lv_aload_n hx hb d_RL_agreedBy_1 rfl (lv_at hl 0 rfl) ?_
    refine qa_get (k := 8) (i := 0) (f := 4) (val := .int (v 8 0 4)) E hC Nat.one_pos rfl rfl (by decide) f_RL_44 rfl rfl d_RL_agreedBy_2 ?_
    refine lv_icmp_ne hx hb d_RL_agreedBy_5 rfl (fun h5 => ?_) (fun h5 => ?_)
    · refine lv_aload_n hx hb d_RL_agreedBy_13 rfl (lv_at hl 0 rfl) ?_
      refine qa_get (k := 8) (i := 0) (f := 0) (val := .ref (qa_a y 1 0)) E hC Nat.one_pos rfl rfl (by decide) f_RL_7 rfl rfl d_RL_agreedBy_14 ?_
      refine lv_iload_n hx hb d_RL_agreedBy_17 rfl (lv_at hl 1 rfl) ?_
      refine qa_ald (k := 1) (i := 0) (j := i) E hC Nat.one_pos rfl rfl rfl rfl rfl hi d_RL_agreedBy_18 ?_
      refine lv_astore_n hx hb d_RL_agreedBy_19 rfl hl (by decide) rfl (fun ls hl => ?_)
      have hl : lv_has ls 3 [(2, .ref (qa_a y 2 i)), (0, .ref (qa_a y 8 0)), (1, .int (nI i))] := hl
      refine lv_aload_n hx hb d_RL_agreedBy_20 rfl (lv_at hl 0 rfl) ?_
      refine qa_get (k := 2) (i := i) (f := 11) (val := .int (v 2 i 11)) E hC hi rfl rfl (by decide) f_RL_54 rfl rfl d_RL_agreedBy_21 ?_
      refine lv_aload_n hx hb d_RL_agreedBy_24 rfl (lv_at hl 1 rfl) ?_
      refine qa_get (k := 8) (i := 0) (f := 4) (val := .int (v 8 0 4)) E hC Nat.one_pos rfl rfl (by decide) f_RL_44 rfl rfl d_RL_agreedBy_25 ?_
      refine qa_pN (As := [.int (v 2 i 11), .int (v 8 0 4)]) E (c_VF_contains l (v 2 i 11) (v 8 0 4)) k_RL_57 (qa_fitR (by decide) (by decide)) rfl hl.1 rfl (Nat.le_of_ble_eq_true rfl) d_RL_agreedBy_28 ?_
      refine lv_if_ne hx hb d_RL_agreedBy_31 rfl (fun h31 => ?_) (fun h31 => ?_)
      · refine lv_aload_n hx hb d_RL_agreedBy_36 rfl (lv_at hl 1 rfl) ?_
        refine lv_aload_n hx hb d_RL_agreedBy_37 rfl (lv_at hl 0 rfl) ?_
        refine lv_iconst (v := 0) hx hb d_RL_agreedBy_38 (by decide) ?_
        refine lv_iconst (v := 1) hx hb d_RL_agreedBy_39 (by decide) ?_
        refine lv_aload_n hx hb d_RL_agreedBy_40 rfl (lv_at hl 1 rfl) ?_
        refine qa_get (k := 8) (i := 0) (f := 4) (val := .int (v 8 0 4)) E hC Nat.one_pos rfl rfl (by decide) f_RL_44 rfl rfl d_RL_agreedBy_41 ?_
        refine lv_ishl hx hb d_RL_agreedBy_44 ?_
        refine lv_aload_n hx hb d_RL_agreedBy_45 rfl (lv_at hl 0 rfl) ?_
        refine lv_aload_n hx hb d_RL_agreedBy_46 rfl (lv_at hl 1 rfl) ?_
        refine qa_get (k := 8) (i := 0) (f := 1) (val := .int (nI (qa_m y))) E hC Nat.one_pos rfl rfl (by decide) f_RL_13 rfl rfl d_RL_agreedBy_47 ?_
        refine qa_pV (k := 2) (i := i) (As := [.int (nI (qa_m y))]) E hC (c_ND_bearable l y v i (nI (qa_m y)) hi) hi rfl rfl k_RL_32 (qa_fitR (by decide) (by decide)) rfl hl.1 rfl (Nat.le_of_ble_eq_true rfl) d_RL_agreedBy_50 ?_
        rw [show qm_min (nI (qa_m y)) ((qm_bc (v 2 i 11) - 1) / 3) = 0 from hb9]
        rw [hs4]
        refine W.eq (g2 := F0 m 53 ls [.int 0, .int (qm_one s0), .int (nI 0), .ref (qa_a y 2 i), .ref (qa_a y 8 0)]) rfl ?_
        refine qa_mV (k := 8) (i := 0) (As := [.ref (qa_a y 2 i), .int (nI 0), .int (qm_one s0), .int 0]) E hC (c_RL_make0 l y v i 0 (qm_one s0) hi (show 0 * qa_n y + qa_n y ≤ qa_h y by omega)) Nat.one_pos rfl rfl k_RL_63 (qa_fitR (by decide) (by decide)) rfl hl.1 rfl (Nat.le_of_ble_eq_true rfl) d_RL_agreedBy_53 (fun r1 u1 H locs hp1 hC => ?_)
        exact qa_mret E hC hr hlocks ⟨by rw [if_neg (fun z => h5 (by rw [hs4, z])), if_pos (by rw [hs4] at h31; exact qb_n0 h31), hp1.1]; rfl, fun k hk => by rw [hp1.2]⟩ d_RL_agreedBy_56
      · refine lv_iconst (v := 0) hx hb d_RL_agreedBy_34 (by decide) ?_
        exact qa_mret E hC hr hlocks ⟨by rw [if_neg (fun z => h5 (by rw [hs4, z])), if_neg]; rw [hs4] at h31; rw [qb_e0 h31]; decide, fun _ _ => rfl⟩ d_RL_agreedBy_35
    · refine lv_aload_n hx hb d_RL_agreedBy_8 rfl (lv_at hl 0 rfl) ?_
      refine qa_get (k := 8) (i := 0) (f := 5) (val := .int (v 8 0 5)) E hC Nat.one_pos rfl rfl (by decide) f_RL_47 rfl rfl d_RL_agreedBy_9 ?_
      exact qa_mret E hC hr hlocks ⟨by rw [if_pos ((nI_eq (by omega) (by omega)).mp (h5.trans hs4))], fun _ _ => rfl⟩ d_RL_agreedBy_12
  · refine lv_iload_n hx hb d_RL_agreedBy_0 rfl (lv_at hl 1 rfl) ?_
    refine lv_aload_n hx hb d_RL_agreedBy_1 rfl (lv_at hl 0 rfl) ?_
    refine qa_get (k := 8) (i := 0) (f := 4) (val := .int (v 8 0 4)) E hC Nat.one_pos rfl rfl (by decide) f_RL_44 rfl rfl d_RL_agreedBy_2 ?_
    refine lv_icmp_ne hx hb d_RL_agreedBy_5 rfl (fun h5 => ?_) (fun h5 => ?_)
    · refine lv_aload_n hx hb d_RL_agreedBy_13 rfl (lv_at hl 0 rfl) ?_
      refine qa_get (k := 8) (i := 0) (f := 0) (val := .ref (qa_a y 1 0)) E hC Nat.one_pos rfl rfl (by decide) f_RL_7 rfl rfl d_RL_agreedBy_14 ?_
      refine lv_iload_n hx hb d_RL_agreedBy_17 rfl (lv_at hl 1 rfl) ?_
      refine qa_ald (k := 1) (i := 0) (j := i) E hC Nat.one_pos rfl rfl rfl rfl rfl hi d_RL_agreedBy_18 ?_
      refine lv_astore_n hx hb d_RL_agreedBy_19 rfl hl (by decide) rfl (fun ls hl => ?_)
      have hl : lv_has ls 3 [(2, .ref (qa_a y 2 i)), (0, .ref (qa_a y 8 0)), (1, .int (nI i))] := hl
      refine lv_aload_n hx hb d_RL_agreedBy_20 rfl (lv_at hl 0 rfl) ?_
      refine qa_get (k := 2) (i := i) (f := 11) (val := .int (v 2 i 11)) E hC hi rfl rfl (by decide) f_RL_54 rfl rfl d_RL_agreedBy_21 ?_
      refine lv_aload_n hx hb d_RL_agreedBy_24 rfl (lv_at hl 1 rfl) ?_
      refine qa_get (k := 8) (i := 0) (f := 4) (val := .int (v 8 0 4)) E hC Nat.one_pos rfl rfl (by decide) f_RL_44 rfl rfl d_RL_agreedBy_25 ?_
      refine qa_pN (As := [.int (v 2 i 11), .int (v 8 0 4)]) E (c_VF_contains l (v 2 i 11) (v 8 0 4)) k_RL_57 (qa_fitR (by decide) (by decide)) rfl hl.1 rfl (Nat.le_of_ble_eq_true rfl) d_RL_agreedBy_28 ?_
      refine lv_if_ne hx hb d_RL_agreedBy_31 rfl (fun h31 => ?_) (fun h31 => ?_)
      · refine lv_aload_n hx hb d_RL_agreedBy_36 rfl (lv_at hl 1 rfl) ?_
        refine lv_aload_n hx hb d_RL_agreedBy_37 rfl (lv_at hl 0 rfl) ?_
        refine lv_iconst (v := 0) hx hb d_RL_agreedBy_38 (by decide) ?_
        refine lv_iconst (v := 1) hx hb d_RL_agreedBy_39 (by decide) ?_
        refine lv_aload_n hx hb d_RL_agreedBy_40 rfl (lv_at hl 1 rfl) ?_
        refine qa_get (k := 8) (i := 0) (f := 4) (val := .int (v 8 0 4)) E hC Nat.one_pos rfl rfl (by decide) f_RL_44 rfl rfl d_RL_agreedBy_41 ?_
        refine lv_ishl hx hb d_RL_agreedBy_44 ?_
        refine lv_aload_n hx hb d_RL_agreedBy_45 rfl (lv_at hl 0 rfl) ?_
        refine lv_aload_n hx hb d_RL_agreedBy_46 rfl (lv_at hl 1 rfl) ?_
        refine qa_get (k := 8) (i := 0) (f := 1) (val := .int (nI (qa_m y))) E hC Nat.one_pos rfl rfl (by decide) f_RL_13 rfl rfl d_RL_agreedBy_47 ?_
        refine qa_pV (k := 2) (i := i) (As := [.int (nI (qa_m y))]) E hC (c_ND_bearable l y v i (nI (qa_m y)) hi) hi rfl rfl k_RL_32 (qa_fitR (by decide) (by decide)) rfl hl.1 rfl (Nat.le_of_ble_eq_true rfl) d_RL_agreedBy_50 ?_
        rw [show qm_min (nI (qa_m y)) ((qm_bc (v 2 i 11) - 1) / 3) = 1 from hb9]
        rw [hs4]
        refine W.eq (g2 := F0 m 53 ls [.int 1, .int (qm_one s0), .int (nI 0), .ref (qa_a y 2 i), .ref (qa_a y 8 0)]) rfl ?_
        refine qa_mV (k := 8) (i := 0) (As := [.ref (qa_a y 2 i), .int (nI 0), .int (qm_one s0), .int 1]) E hC (c_RL_make1 l y v i 0 (qm_one s0) hi (by omega) (show (0 * qa_n y + qa_n y) * qa_n y + qa_n y ≤ qa_h y by have := b1 hLm; rcases qm_n47 hn4 hn7 with e | e | e | e <;> rw [e] at this ⊢ <;> omega)) Nat.one_pos rfl rfl k_RL_63 (qa_fitR (by decide) (by decide)) rfl hl.1 rfl (Nat.le_of_ble_eq_true rfl) d_RL_agreedBy_53 (fun r2 u2 H locs hp2 hC => ?_)
        exact qa_mret E hC hr hlocks ⟨by rw [if_neg (fun z => h5 (by rw [hs4, z])), if_pos (by rw [hs4] at h31; exact qb_n0 h31), hp2.1]; rfl, fun k hk => by funext b; exact hp2.2 k b (fun z => hk z.1)⟩ d_RL_agreedBy_56
      · refine lv_iconst (v := 0) hx hb d_RL_agreedBy_34 (by decide) ?_
        exact qa_mret E hC hr hlocks ⟨by rw [if_neg (fun z => h5 (by rw [hs4, z])), if_neg]; rw [hs4] at h31; rw [qb_e0 h31]; decide, fun _ _ => rfl⟩ d_RL_agreedBy_35
    · refine lv_aload_n hx hb d_RL_agreedBy_8 rfl (lv_at hl 0 rfl) ?_
      refine qa_get (k := 8) (i := 0) (f := 5) (val := .int (v 8 0 5)) E hC Nat.one_pos rfl rfl (by decide) f_RL_47 rfl rfl d_RL_agreedBy_9 ?_
      exact qa_mret E hC hr hlocks ⟨by rw [if_pos ((nI_eq (by omega) (by omega)).mp (h5.trans hs4))], fun _ _ => rfl⟩ d_RL_agreedBy_12
  · refine lv_iload_n hx hb d_RL_agreedBy_0 rfl (lv_at hl 1 rfl) ?_
    refine lv_aload_n hx hb d_RL_agreedBy_1 rfl (lv_at hl 0 rfl) ?_
    refine qa_get (k := 8) (i := 0) (f := 4) (val := .int (v 8 0 4)) E hC Nat.one_pos rfl rfl (by decide) f_RL_44 rfl rfl d_RL_agreedBy_2 ?_
    refine lv_icmp_ne hx hb d_RL_agreedBy_5 rfl (fun h5 => ?_) (fun h5 => ?_)
    · refine lv_aload_n hx hb d_RL_agreedBy_13 rfl (lv_at hl 0 rfl) ?_
      refine qa_get (k := 8) (i := 0) (f := 0) (val := .ref (qa_a y 1 0)) E hC Nat.one_pos rfl rfl (by decide) f_RL_7 rfl rfl d_RL_agreedBy_14 ?_
      refine lv_iload_n hx hb d_RL_agreedBy_17 rfl (lv_at hl 1 rfl) ?_
      refine qa_ald (k := 1) (i := 0) (j := i) E hC Nat.one_pos rfl rfl rfl rfl rfl hi d_RL_agreedBy_18 ?_
      refine lv_astore_n hx hb d_RL_agreedBy_19 rfl hl (by decide) rfl (fun ls hl => ?_)
      have hl : lv_has ls 3 [(2, .ref (qa_a y 2 i)), (0, .ref (qa_a y 8 0)), (1, .int (nI i))] := hl
      refine lv_aload_n hx hb d_RL_agreedBy_20 rfl (lv_at hl 0 rfl) ?_
      refine qa_get (k := 2) (i := i) (f := 11) (val := .int (v 2 i 11)) E hC hi rfl rfl (by decide) f_RL_54 rfl rfl d_RL_agreedBy_21 ?_
      refine lv_aload_n hx hb d_RL_agreedBy_24 rfl (lv_at hl 1 rfl) ?_
      refine qa_get (k := 8) (i := 0) (f := 4) (val := .int (v 8 0 4)) E hC Nat.one_pos rfl rfl (by decide) f_RL_44 rfl rfl d_RL_agreedBy_25 ?_
      refine qa_pN (As := [.int (v 2 i 11), .int (v 8 0 4)]) E (c_VF_contains l (v 2 i 11) (v 8 0 4)) k_RL_57 (qa_fitR (by decide) (by decide)) rfl hl.1 rfl (Nat.le_of_ble_eq_true rfl) d_RL_agreedBy_28 ?_
      refine lv_if_ne hx hb d_RL_agreedBy_31 rfl (fun h31 => ?_) (fun h31 => ?_)
      · refine lv_aload_n hx hb d_RL_agreedBy_36 rfl (lv_at hl 1 rfl) ?_
        refine lv_aload_n hx hb d_RL_agreedBy_37 rfl (lv_at hl 0 rfl) ?_
        refine lv_iconst (v := 0) hx hb d_RL_agreedBy_38 (by decide) ?_
        refine lv_iconst (v := 1) hx hb d_RL_agreedBy_39 (by decide) ?_
        refine lv_aload_n hx hb d_RL_agreedBy_40 rfl (lv_at hl 1 rfl) ?_
        refine qa_get (k := 8) (i := 0) (f := 4) (val := .int (v 8 0 4)) E hC Nat.one_pos rfl rfl (by decide) f_RL_44 rfl rfl d_RL_agreedBy_41 ?_
        refine lv_ishl hx hb d_RL_agreedBy_44 ?_
        refine lv_aload_n hx hb d_RL_agreedBy_45 rfl (lv_at hl 0 rfl) ?_
        refine lv_aload_n hx hb d_RL_agreedBy_46 rfl (lv_at hl 1 rfl) ?_
        refine qa_get (k := 8) (i := 0) (f := 1) (val := .int (nI (qa_m y))) E hC Nat.one_pos rfl rfl (by decide) f_RL_13 rfl rfl d_RL_agreedBy_47 ?_
        refine qa_pV (k := 2) (i := i) (As := [.int (nI (qa_m y))]) E hC (c_ND_bearable l y v i (nI (qa_m y)) hi) hi rfl rfl k_RL_32 (qa_fitR (by decide) (by decide)) rfl hl.1 rfl (Nat.le_of_ble_eq_true rfl) d_RL_agreedBy_50 ?_
        rw [show qm_min (nI (qa_m y)) ((qm_bc (v 2 i 11) - 1) / 3) = 2 from hb9]
        rw [hs4]
        refine W.eq (g2 := F0 m 53 ls [.int 2, .int (qm_one s0), .int (nI 0), .ref (qa_a y 2 i), .ref (qa_a y 8 0)]) rfl ?_
        refine qa_mV (k := 8) (i := 0) (As := [.ref (qa_a y 2 i), .int (nI 0), .int (qm_one s0), .int 2]) E hC (c_RL_make2 l y v i (qm_one s0) hi (by omega) (by have := b2 hLm; rcases qm_n47 hn4 hn7 with e | e | e | e <;> rw [e] at this ⊢ <;> omega)) Nat.one_pos rfl rfl k_RL_63 (qa_fitR (by decide) (by decide)) rfl hl.1 rfl (Nat.le_of_ble_eq_true rfl) d_RL_agreedBy_53 (fun r3 u3 H locs hp3 hC => ?_)
        exact qa_mret E hC hr hlocks ⟨by rw [if_neg (fun z => h5 (by rw [hs4, z])), if_pos (by rw [hs4] at h31; exact qb_n0 h31), hp3.1]; rfl, fun k hk => by funext b; exact hp3.2 k b (fun z => hk z.1)⟩ d_RL_agreedBy_56
      · refine lv_iconst (v := 0) hx hb d_RL_agreedBy_34 (by decide) ?_
        exact qa_mret E hC hr hlocks ⟨by rw [if_neg (fun z => h5 (by rw [hs4, z])), if_neg]; rw [hs4] at h31; rw [qb_e0 h31]; decide, fun _ _ => rfl⟩ d_RL_agreedBy_35
    · refine lv_aload_n hx hb d_RL_agreedBy_8 rfl (lv_at hl 0 rfl) ?_
      refine qa_get (k := 8) (i := 0) (f := 5) (val := .int (v 8 0 5)) E hC Nat.one_pos rfl rfl (by decide) f_RL_47 rfl rfl d_RL_agreedBy_9 ?_
      exact qa_mret E hC hr hlocks ⟨by rw [if_pos ((nI_eq (by omega) (by omega)).mp (h5.trans hs4))], fun _ _ => rfl⟩ d_RL_agreedBy_12
end
section
/-! a frame, in the words of the document, over a memory in the class's names -/
/-- a message of j gets through to i -/
def qm_hr (y : qa_L) (v : qa_M) (j i : Nat) : Bool := qm_in (v 2 i 11) (nI j) && (!decide (v 2 j 9 = 1) && qm_wi (v 2 i 6 - v 2 j 6 + v 3 i j) (-(qa_d y + 20)) (qa_d y + 20))
/-- what i gets when j sends it x -/
def qm_g (y : qa_L) (v : qa_M) (j : Nat) (x : Int32) (i : Nat) : Int32 := if qm_hr y v j i = true then qm_says (v 2 j 9) (v 2 j 10) x (nI i) (v 0 0 11) else 0
/-- how many faults i bears -/
def qm_bn (y : qa_L) (v : qa_M) (i : Nat) : Nat := qm_ix (qm_bear (qa_m y) (v 2 i 11))
/-- what i agrees on of the value x of s -/
def qm_AG (y : qa_L) (v : qa_M) (i s : Nat) (x : Int32) : Int32 := if i = s then x else if qm_in (v 2 i 11) (nI s) = true then qm_ag (qa_n y) (qm_g y v) (v 2 i 11) s x i (qm_bn y v i) else 0
/-- whom i hears, as a set -/
def qm_hm (y : qa_L) (v : qa_M) (i : Nat) : Nat → Int32
  | 0 => 0
  | j + 1 => if j ≠ i ∧ qm_hr y v j i = true then qm_ad (qm_hm y v i j) j else qm_hm y v i j
theorem qm_hm_in {y : qa_L} {v : qa_M} {i : Nat} (k : Nat) (hk : k ≤ 7) {j : Nat} (hj : j < 31) : qm_in (qm_hm y v i k) (nI j) = (decide (j < k) && (!decide (j = i) && qm_hr y v j i)) := by
  induction k with
  | zero => rw [qm_hm, qm_in_0 hj]; simp
  | succ k ih =>
    rw [qm_hm]
    by_cases c : k ≠ i ∧ qm_hr y v k i = true
    · rw [if_pos c, qm_in_ad _ (by omega) hj, ih (by omega)]
      by_cases e : j = k
      · subst e
        simp [c.1, c.2]
      · by_cases h1 : j < k
        · simp [e, h1, Nat.lt_succ_of_lt h1]
        · simp [e, h1, show ¬ j < k + 1 by omega]
    · rw [if_neg c, ih (by omega)]
      by_cases e : j = k
      · subst e
        by_cases h1 : j = i
        · simp [h1]
        · have : qm_hr y v j i = false := Bool.eq_false_iff.mpr (fun q => c ⟨h1, q⟩)
          simp [this]
      · by_cases h1 : j < k
        · simp [h1, Nat.lt_succ_of_lt h1]
        · simp [h1, show ¬ j < k + 1 by omega]
theorem qm_hr_n {y : qa_L} {u v : qa_M} {i j : Nat} (h : ∀ a f, f ≠ 12 → u 2 a f = v 2 a f) (h3 : u 3 i j = v 3 i j) : qm_hr y u j i = qm_hr y v j i := by
  unfold qm_hr
  rw [h i 11 (by decide), h j 9 (by decide), h i 6 (by decide), h j 6 (by decide), h3]
end
section
set_option maxHeartbeats 4000000 in
set_option maxRecDepth 100000 in
theorem c_VF_openLines (l : Launch) (y : qa_L) (v : qa_M) : qa_Mv l y_VF_openLines b_VF_openLines 4 3 [.ref (qa_a y 0 0)] y v (fun u => (∀ a b f, ¬ (a = 2 ∧ f = 12) → u a b f = v a b f) ∧ ∀ i, i < qa_n y → u 2 i 12 = qm_hm y v i (qa_n y)) := by
  refine qa_ofMv (plainFor_of_name (by decide)) (Nat.le_of_ble_eq_true rfl) ?_
  intro p e s m below meth c ls E hr hlocks hC hl
  have E : qa_E p m c b_VF_openLines 4 s _ "VotedFrames" y := E
  have F := E.1
  have hx := F.1
  have hb := F.2.1
  have hown : s.vm.findClass "VotedFrames" = some m.cls := F.2.2.2.1
  have hts := F.2.2.2.2
  have hn4 : 4 ≤ qa_n y := E.2.1.2.2.1
  have hn7 : qa_n y ≤ 7 := E.2.1.2.2.2.1
  have hl : lv_has ls 4 [(0, .ref (qa_a y 0 0))] := hl
  have loop : ∀ (d i : Nat) (u : qa_M) (H : Heap) (locs : List Loc) (ls : Array Slot), i + d = qa_n y → qa_C y u s H locs → ((∀ a b f, ¬ (a = 2 ∧ f = 12) → u a b f = v a b f) ∧ ∀ c, c < i → u 2 c 12 = qm_hm y v c (qa_n y)) → lv_has ls 4 [(1, .int (nI i)), (0, .ref (qa_a y 0 0))] → W p l e (qa_R 3) s m [.ref (qa_a y 0 0)].toArray below meth c H locs 0 0 (MQ below (va_Qv (fun u => (∀ a b f, ¬ (a = 2 ∧ f = 12) → u a b f = v a b f) ∧ ∀ i, i < qa_n y → u 2 i 12 = qm_hm y v i (qa_n y)) (fun u t => qa_W y u t) (qa_A y)) [.ref (qa_a y 0 0)].toArray s 0 0 (qa_A y)) (F0 m 2 ls []) := by
    intro d
    induction d with
    | zero =>
      intro i u H locs ls hkd hC hI hl
      obtain rfl : qa_n y = i := by omega
      refine lv_iload_n hx hb d_VF_openLines_2 rfl (lv_at hl 0 rfl) ?_
      refine lv_aload_n hx hb d_VF_openLines_3 rfl (lv_at hl 1 rfl) ?_
      refine qa_get (k := 0) (i := 0) (f := 0) (val := .int (nI (qa_n y))) E hC Nat.one_pos rfl rfl (by decide) f_VF_13 rfl rfl d_VF_openLines_4 ?_
      refine lv_icmp_ge hx hb d_VF_openLines_7 rfl (fun _ => ?_) (fun h9 => absurd (nI_le (Nat.le_refl _) (by omega)) h9)
      exact qa_mvret E hC hr hlocks hI d_VF_openLines_80
    | succ d ih =>
      intro i u H locs ls hkd hC hI hl
      have hi : i < qa_n y := by omega
      refine lv_iload_n hx hb d_VF_openLines_2 rfl (lv_at hl 0 rfl) ?_
      refine lv_aload_n hx hb d_VF_openLines_3 rfl (lv_at hl 1 rfl) ?_
      refine qa_get (k := 0) (i := 0) (f := 0) (val := .int (nI (qa_n y))) E hC Nat.one_pos rfl rfl (by decide) f_VF_13 rfl rfl d_VF_openLines_4 ?_
      refine lv_icmp_ge hx hb d_VF_openLines_7 rfl (fun h9 => absurd h9 (nI_ge hi (by omega))) (fun _ => ?_)
      refine lv_iconst (v := 0) hx hb d_VF_openLines_10 (by decide) ?_
      refine lv_istore_n hx hb d_VF_openLines_11 rfl hl (by decide) rfl (fun ls hl => ?_)
      have hl : lv_has ls 4 [(2, .int 0), (1, .int (nI i)), (0, .ref (qa_a y 0 0))] := hl
      refine lv_iconst (v := 0) hx hb d_VF_openLines_12 (by decide) ?_
      refine lv_istore_n hx hb d_VF_openLines_13 rfl hl (by decide) rfl (fun ls hl => ?_)
      have hl : lv_has ls 4 [(3, .int 0), (2, .int 0), (1, .int (nI i)), (0, .ref (qa_a y 0 0))] := hl
      have loop2 : ∀ (d j : Nat) (ls : Array Slot), j + d = qa_n y → lv_has ls 4 [(3, .int (nI j)), (2, .int (qm_hm y v i j)), (1, .int (nI i)), (0, .ref (qa_a y 0 0))] → W p l e (qa_R 3) s m [.ref (qa_a y 0 0)].toArray below meth c H locs 0 0 (MQ below (va_Qv (fun u => (∀ a b f, ¬ (a = 2 ∧ f = 12) → u a b f = v a b f) ∧ ∀ i, i < qa_n y → u 2 i 12 = qm_hm y v i (qa_n y)) (fun u t => qa_W y u t) (qa_A y)) [.ref (qa_a y 0 0)].toArray s 0 0 (qa_A y)) (F0 m 14 ls []) := by
        intro d
        induction d with
        | zero =>
          intro j ls hkd hl
          obtain rfl : qa_n y = j := by omega
          refine lv_iload_n hx hb d_VF_openLines_14 rfl (lv_at hl 0 rfl) ?_
          refine lv_aload_n hx hb d_VF_openLines_15 rfl (lv_at hl 3 rfl) ?_
          refine qa_get (k := 0) (i := 0) (f := 0) (val := .int (nI (qa_n y))) E hC Nat.one_pos rfl rfl (by decide) f_VF_13 rfl rfl d_VF_openLines_16 ?_
          refine lv_icmp_ge hx hb d_VF_openLines_19 rfl (fun _ => ?_) (fun h9 => absurd (nI_le (Nat.le_refl _) (by omega)) h9)
          refine lv_aload_n hx hb d_VF_openLines_64 rfl (lv_at hl 3 rfl) ?_
          refine qa_get (k := 0) (i := 0) (f := 3) (val := .ref (qa_a y 1 0)) E hC Nat.one_pos rfl rfl (by decide) f_VF_31 rfl rfl d_VF_openLines_65 ?_
          refine lv_iload_n hx hb d_VF_openLines_68 rfl (lv_at hl 2 rfl) ?_
          refine qa_ald (k := 1) (i := 0) (j := i) E hC Nat.one_pos rfl rfl rfl rfl rfl hi d_VF_openLines_69 ?_
          refine lv_iload_n hx hb d_VF_openLines_70 rfl (lv_at hl 1 rfl) ?_
          refine qa_put (k := 2) (i := i) (f := 12) E hC hi rfl rfl (by decide) f_VF_198 rfl rfl rfl rfl d_VF_openLines_71 (fun H locs hC => ?_)
          refine lv_iinc (v := nI (i + 1)) hx hb d_VF_openLines_74 hl (k := 2) rfl (nI_1 i) (by decide) rfl (fun ls hl => ?_)
          have hl : lv_has ls 4 [(1, .int (nI (i + 1))), (3, .int (nI (qa_n y))), (2, .int (qm_hm y v i (qa_n y))), (0, .ref (qa_a y 0 0))] := hl
          refine lv_goto hx hb d_VF_openLines_77 rfl ?_
          refine ih (i + 1) _ H locs ls (by omega) hC ⟨fun a b f h => ?_, lt_s (fun a ha => ?_) ?_⟩ (lv_sub hl [0, 3] rfl)
          · rw [show qa_up u 2 i 12 (qm_hm y v i (qa_n y)) a b f = u a b f by simp only [qa_up]; rw [if_neg]; exact fun z => h ⟨z.1, z.2.2⟩]; exact hI.1 a b f h
          · rw [qa_up_i (by omega)]; exact hI.2 a ha
          · exact qa_up_s
        | succ d ih2 =>
          intro j ls hkd hl
          have hj : j < qa_n y := by omega
          refine lv_iload_n hx hb d_VF_openLines_14 rfl (lv_at hl 0 rfl) ?_
          refine lv_aload_n hx hb d_VF_openLines_15 rfl (lv_at hl 3 rfl) ?_
          refine qa_get (k := 0) (i := 0) (f := 0) (val := .int (nI (qa_n y))) E hC Nat.one_pos rfl rfl (by decide) f_VF_13 rfl rfl d_VF_openLines_16 ?_
          refine lv_icmp_ge hx hb d_VF_openLines_19 rfl (fun h9 => absurd h9 (nI_ge hj (by omega))) (fun _ => ?_)
          refine lv_iload_n hx hb d_VF_openLines_22 rfl (lv_at hl 0 rfl) ?_
          refine lv_iload_n hx hb d_VF_openLines_23 rfl (lv_at hl 2 rfl) ?_
          refine lv_icmp_eq hx hb d_VF_openLines_24 rfl (fun h24 => ?_) (fun h24 => ?_)
          · refine lv_iinc (v := nI (j + 1)) hx hb d_VF_openLines_58 hl (k := 0) rfl (nI_1 j) (by decide) rfl (fun ls hl => ?_)
            have hl : lv_has ls 4 [(3, .int (nI (j + 1))), (2, .int (qm_hm y v i j)), (1, .int (nI i)), (0, .ref (qa_a y 0 0))] := hl
            refine lv_goto hx hb d_VF_openLines_61 rfl ?_
            have e5 : qm_hm y v i (j + 1) = qm_hm y v i j := if_neg (fun z => z.1 ((nI_eq (by omega) (by omega)).mp h24))
            refine ih2 (j + 1) ls (by omega) ?_
            rw [e5]
            exact lv_sub hl [0, 1, 2, 3] rfl
          · have hre : qm_hr y u j i = qm_hr y v j i := qm_hr_n (fun a f hf => hI.1 2 a f (fun z => hf z.2)) (hI.1 3 i j (fun z => absurd z.1 (by decide)))
            refine lv_aload_n hx hb d_VF_openLines_27 rfl (lv_at hl 3 rfl) ?_
            refine qa_get (k := 0) (i := 0) (f := 3) (val := .ref (qa_a y 1 0)) E hC Nat.one_pos rfl rfl (by decide) f_VF_31 rfl rfl d_VF_openLines_28 ?_
            refine lv_iload_n hx hb d_VF_openLines_31 rfl (lv_at hl 2 rfl) ?_
            refine qa_ald (k := 1) (i := 0) (j := i) E hC Nat.one_pos rfl rfl rfl rfl rfl hi d_VF_openLines_32 ?_
            refine lv_aload_n hx hb d_VF_openLines_33 rfl (lv_at hl 3 rfl) ?_
            refine qa_get (k := 0) (i := 0) (f := 3) (val := .ref (qa_a y 1 0)) E hC Nat.one_pos rfl rfl (by decide) f_VF_31 rfl rfl d_VF_openLines_34 ?_
            refine lv_iload_n hx hb d_VF_openLines_37 rfl (lv_at hl 0 rfl) ?_
            refine qa_ald (k := 1) (i := 0) (j := j) E hC Nat.one_pos rfl rfl rfl rfl rfl hj d_VF_openLines_38 ?_
            refine lv_aload_n hx hb d_VF_openLines_39 rfl (lv_at hl 3 rfl) ?_
            refine qa_get (k := 0) (i := 0) (f := 2) (val := .int (qa_d y)) E hC Nat.one_pos rfl rfl (by decide) f_VF_24 rfl rfl d_VF_openLines_40 ?_
            refine lv_bipush (v := 20) hx hb d_VF_openLines_43 (by decide) ?_
            refine lv_iadd hx hb d_VF_openLines_45 ?_
            refine qa_pV (k := 2) (i := i) (As := [.ref (qa_a y 2 j), .int ((qa_d y) + 20)]) E hC (c_ND_canHear l y u i j ((qa_d y) + 20) hi hj) hi rfl rfl k_VF_194 (qa_fitR (by decide) (by decide)) rfl hl.1 rfl (Nat.le_of_ble_eq_true rfl) d_VF_openLines_46 ?_
            refine lv_if_eq hx hb d_VF_openLines_49 rfl (fun h49 => ?_) (fun h49 => ?_)
            · refine lv_iinc (v := nI (j + 1)) hx hb d_VF_openLines_58 hl (k := 0) rfl (nI_1 j) (by decide) rfl (fun ls hl => ?_)
              have hl : lv_has ls 4 [(3, .int (nI (j + 1))), (2, .int (qm_hm y v i j)), (1, .int (nI i)), (0, .ref (qa_a y 0 0))] := hl
              refine lv_goto hx hb d_VF_openLines_61 rfl ?_
              have e5 : qm_hm y v i (j + 1) = qm_hm y v i j := if_neg (fun z => by have h8 : qb (qm_hr y u j i) = 0 := h49; rw [hre, z.2] at h8; exact absurd h8 (by decide))
              refine ih2 (j + 1) ls (by omega) ?_
              rw [e5]
              exact lv_sub hl [0, 1, 2, 3] rfl
            · refine lv_iload_n hx hb d_VF_openLines_52 rfl (lv_at hl 1 rfl) ?_
              refine lv_iconst (v := 1) hx hb d_VF_openLines_53 (by decide) ?_
              refine lv_iload_n hx hb d_VF_openLines_54 rfl (lv_at hl 0 rfl) ?_
              refine lv_ishl hx hb d_VF_openLines_55 ?_
              refine lv_ior hx hb d_VF_openLines_56 ?_
              refine lv_istore_n hx hb d_VF_openLines_57 rfl hl (by decide) rfl (fun ls hl => ?_)
              have hl : lv_has ls 4 [(2, .int ((qm_hm y v i j) ||| ((1 : Int32) <<< ((nI j) &&& 31)))), (3, .int (nI j)), (1, .int (nI i)), (0, .ref (qa_a y 0 0))] := hl
              refine lv_iinc (v := nI (j + 1)) hx hb d_VF_openLines_58 hl (k := 1) rfl (nI_1 j) (by decide) rfl (fun ls hl => ?_)
              have hl : lv_has ls 4 [(3, .int (nI (j + 1))), (2, .int ((qm_hm y v i j) ||| ((1 : Int32) <<< ((nI j) &&& 31)))), (1, .int (nI i)), (0, .ref (qa_a y 0 0))] := hl
              refine lv_goto hx hb d_VF_openLines_61 rfl ?_
              have e5 : qm_hm y v i (j + 1) = qm_ad (qm_hm y v i j) j := if_pos ⟨fun z => h24 (by rw [z]), by rw [← hre]; exact qb_n0 h49⟩
              refine ih2 (j + 1) ls (by omega) ?_
              rw [e5]
              exact lv_sub hl [0, 1, 2, 3] rfl
      exact loop2 (qa_n y) 0 ls (by omega) (lv_sub hl [0, 1, 2, 3] rfl)
  refine lv_iconst (v := 0) hx hb d_VF_openLines_0 (by decide) ?_
  refine lv_istore_n hx hb d_VF_openLines_1 rfl hl (by decide) rfl (fun ls hl => ?_)
  have hl : lv_has ls 4 [(1, .int 0), (0, .ref (qa_a y 0 0))] := hl
  exact loop (qa_n y) 0 v _ _ ls (by omega) hC ⟨fun _ _ _ _ => rfl, lt_0⟩ (lv_sub hl [0, 1] rfl)
end
section
theorem qm_gt_m {u v : qa_M} (h9 : ∀ i, u 2 i 9 = v 2 i 9) (h10 : ∀ i, u 2 i 10 = v 2 i 10) (h12 : ∀ i, u 2 i 12 = v 2 i 12) (h8 : u 8 0 6 = v 8 0 6) : qm_gt u = qm_gt v := by
  funext j x i
  simp only [qm_gt, h9, h10, h12, h8]
/-- what node i agrees on, by the class's sets -/
def qm_ac (n : Nat) (v : qa_M) (i s : Nat) (x : Int32) (L : Nat) : Int32 := if i = s then x else if qm_in (v 2 i 11) (nI s) = true then qm_ag n (qm_gt v) (v 2 i 11) s x i L else 0
/-- all nodes -/
def qm_all (n : Nat) : Int32 := ((1 : Int32) <<< (nI n &&& 31)) - 1
end
section
set_option maxHeartbeats 4000000 in
set_option maxRecDepth 100000 in
theorem c_VF_agreeOnSensors (l : Launch) (y : qa_L) (v : qa_M) (R : Nat) (bn : Nat → Nat) (hR : v 8 0 7 = nI R) (hRm : R ≤ qa_m y) (hbn : ∀ i, i < qa_n y → qm_bear (qa_m y) (v 2 i 11) = nI (bn i) ∧ bn i ≤ R) : qa_Mv l y_VF_agreeOnSensors b_VF_agreeOnSensors 3 7 [.ref (qa_a y 0 0)] y v (fun u => (∀ a b f, a ≠ 5 → a ≠ 8 → a ≠ 9 → a ≠ 11 → ¬ (a = 2 ∧ f = 13) → u a b f = v a b f) ∧ u 8 0 6 = v 8 0 6 ∧ u 8 0 7 = v 8 0 7 ∧ (∀ i, i < qa_n y → ∀ c, c < qa_n y → u 5 i c = qm_ac (qa_n y) v i c (v 2 c 8) (bn i)) ∧ ∀ c, c < qa_n y → u 2 c 13 = 0) := by
  refine qa_ofMv (plainFor_of_name (by decide)) (Nat.le_of_ble_eq_true rfl) ?_
  intro p e s m below meth c ls E hr hlocks hC hl
  have E : qa_E p m c b_VF_agreeOnSensors 3 s _ "VotedFrames" y := E
  have F := E.1
  have hx := F.1
  have hb := F.2.1
  have hown : s.vm.findClass "VotedFrames" = some m.cls := F.2.2.2.1
  have hts := F.2.2.2.2
  have hn4 : 4 ≤ qa_n y := E.2.1.2.2.1
  have hn7 : qa_n y ≤ 7 := E.2.1.2.2.2.1
  have hl : lv_has ls 3 [(0, .ref (qa_a y 0 0))] := hl
  have hm2 : qa_m y ≤ 2 := by have := E.2.1.2.2.2.2.1; omega
  have loop : ∀ (d s0 : Nat) (u : qa_M) (H : Heap) (locs : List Loc) (ls : Array Slot), s0 + d = qa_n y → qa_C y u s H locs → ((∀ a b f, a ≠ 5 → a ≠ 8 → a ≠ 9 → a ≠ 11 → ¬ (a = 2 ∧ f = 13) → u a b f = v a b f) ∧ u 8 0 6 = v 8 0 6 ∧ u 8 0 7 = v 8 0 7 ∧ (∀ i, i < qa_n y → ∀ c, c < s0 → u 5 i c = qm_ac (qa_n y) v i c (v 2 c 8) (bn i)) ∧ ∀ c, c < s0 → u 2 c 13 = 0) → lv_has ls 3 [(1, .int (nI s0)), (0, .ref (qa_a y 0 0))] → W p l e (qa_R 7) s m [.ref (qa_a y 0 0)].toArray below meth c H locs 0 0 (MQ below (va_Qv (fun u => (∀ a b f, a ≠ 5 → a ≠ 8 → a ≠ 9 → a ≠ 11 → ¬ (a = 2 ∧ f = 13) → u a b f = v a b f) ∧ u 8 0 6 = v 8 0 6 ∧ u 8 0 7 = v 8 0 7 ∧ (∀ i, i < qa_n y → ∀ c, c < qa_n y → u 5 i c = qm_ac (qa_n y) v i c (v 2 c 8) (bn i)) ∧ ∀ c, c < qa_n y → u 2 c 13 = 0) (fun u t => qa_W y u t) (qa_A y)) [.ref (qa_a y 0 0)].toArray s 0 0 (qa_A y)) (F0 m 2 ls []) := by
    intro d
    induction d with
    | zero =>
      intro s0 u H locs ls hkd hC hI hl
      obtain rfl : qa_n y = s0 := by omega
      refine lv_iload_n hx hb d_VF_agreeOnSensors_2 rfl (lv_at hl 0 rfl) ?_
      refine lv_aload_n hx hb d_VF_agreeOnSensors_3 rfl (lv_at hl 1 rfl) ?_
      refine qa_get (k := 0) (i := 0) (f := 0) (val := .int (nI (qa_n y))) E hC Nat.one_pos rfl rfl (by decide) f_VF_13 rfl rfl d_VF_agreeOnSensors_4 ?_
      refine lv_icmp_ge hx hb d_VF_agreeOnSensors_7 rfl (fun _ => ?_) (fun h9 => absurd (nI_le (Nat.le_refl _) (by omega)) h9)
      exact qa_mvret E hC hr hlocks hI d_VF_agreeOnSensors_78
    | succ d ih =>
      intro s0 u H locs ls hkd hC hI hl
      have hs0 : s0 < qa_n y := by omega
      refine lv_iload_n hx hb d_VF_agreeOnSensors_2 rfl (lv_at hl 0 rfl) ?_
      refine lv_aload_n hx hb d_VF_agreeOnSensors_3 rfl (lv_at hl 1 rfl) ?_
      refine qa_get (k := 0) (i := 0) (f := 0) (val := .int (nI (qa_n y))) E hC Nat.one_pos rfl rfl (by decide) f_VF_13 rfl rfl d_VF_agreeOnSensors_4 ?_
      refine lv_icmp_ge hx hb d_VF_agreeOnSensors_7 rfl (fun h9 => absurd h9 (nI_ge hs0 (by omega))) (fun _ => ?_)
      refine lv_aload_n hx hb d_VF_agreeOnSensors_10 rfl (lv_at hl 1 rfl) ?_
      refine qa_get (k := 0) (i := 0) (f := 4) (val := .ref (qa_a y 8 0)) E hC Nat.one_pos rfl rfl (by decide) f_VF_40 rfl rfl d_VF_agreeOnSensors_11 ?_
      refine lv_iload_n hx hb d_VF_agreeOnSensors_14 rfl (lv_at hl 0 rfl) ?_
      refine lv_aload_n hx hb d_VF_agreeOnSensors_15 rfl (lv_at hl 1 rfl) ?_
      refine qa_get (k := 0) (i := 0) (f := 3) (val := .ref (qa_a y 1 0)) E hC Nat.one_pos rfl rfl (by decide) f_VF_31 rfl rfl d_VF_agreeOnSensors_16 ?_
      refine lv_iload_n hx hb d_VF_agreeOnSensors_19 rfl (lv_at hl 0 rfl) ?_
      refine qa_ald (k := 1) (i := 0) (j := s0) E hC Nat.one_pos rfl rfl rfl rfl rfl hs0 d_VF_agreeOnSensors_20 ?_
      refine qa_get (k := 2) (i := s0) (f := 8) (val := .int (u 2 s0 8)) E hC hs0 rfl rfl (by decide) f_VF_94 rfl rfl d_VF_agreeOnSensors_21 ?_
      refine qa_mVv (k := 8) (i := 0) (As := [.int (nI s0), .int (u 2 s0 8)]) E hC (c_RL_spreadOut l y u s0 (u 2 s0 8) R hs0 (by rw [hI.2.2.1]; exact hR) hRm) Nat.one_pos rfl rfl k_VF_201 (qa_fitR (by decide) (by decide)) rfl hl.1 rfl (Nat.le_of_ble_eq_true rfl) d_VF_agreeOnSensors_24 (fun u1 H locs hp1 hC => ?_)
      refine lv_iconst (v := 0) hx hb d_VF_agreeOnSensors_27 (by decide) ?_
      refine lv_istore_n hx hb d_VF_agreeOnSensors_28 rfl hl (by decide) rfl (fun ls hl => ?_)
      have hl : lv_has ls 3 [(2, .int 0), (1, .int (nI s0)), (0, .ref (qa_a y 0 0))] := hl
      have hg : qm_gt u = qm_gt v := qm_gt_m (fun i => hI.1 2 i 9 (by decide) (by decide) (by decide) (by decide) (by decide)) (fun i => hI.1 2 i 10 (by decide) (by decide) (by decide) (by decide) (by decide)) (fun i => hI.1 2 i 12 (by decide) (by decide) (by decide) (by decide) (by decide)) hI.2.1
      have hval : u 2 s0 8 = v 2 s0 8 := hI.1 2 s0 8 (by decide) (by decide) (by decide) (by decide) (by decide)
      rw [hg, hval] at hp1
      have q1 : ∀ a b f, a ≠ 5 → a ≠ 8 → a ≠ 9 → a ≠ 11 → ¬ (a = 2 ∧ f = 13) → u1 a b f = v a b f := fun a b f h5 h8 h9 h11 h2 => by rw [hp1.1 a h8 h9]; exact hI.1 a b f h5 h8 h9 h11 h2
      have q6 : u1 8 0 6 = v 8 0 6 := hp1.2.2.2.1.trans hI.2.1
      have q7 : u1 8 0 7 = v 8 0 7 := hp1.2.2.2.2.1.trans hI.2.2.1
      have qK : ∀ i, i < qa_n y → ∀ c, c < s0 → u1 5 i c = qm_ac (qa_n y) v i c (v 2 c 8) (bn i) := fun i hi c hc => by rw [hp1.1 5 (by decide) (by decide)]; exact hI.2.2.2.1 i hi c hc
      have qZ : ∀ c, c < s0 → u1 2 c 13 = 0 := fun c hc => by rw [hp1.1 2 (by decide) (by decide)]; exact hI.2.2.2.2 c hc
      have q4 : u1 8 0 4 = nI s0 := hp1.2.1
      have q5 := hp1.2.2.1
      have qS := hp1.2.2.2.2.2
      have loop2 : ∀ (d j : Nat) (u : qa_M) (H : Heap) (locs : List Loc) (ls : Array Slot), j + d = qa_n y → qa_C y u s H locs → ((∀ a b f, a ≠ 5 → a ≠ 11 → u a b f = u1 a b f) ∧ (∀ i, i < qa_n y → ∀ c, c ≠ s0 → u 5 i c = u1 5 i c) ∧ ∀ i, i < j → u 5 i s0 = qm_ac (qa_n y) v i s0 (v 2 s0 8) (bn i)) → lv_has ls 3 [(2, .int (nI j)), (1, .int (nI s0)), (0, .ref (qa_a y 0 0))] → W p l e (qa_R 7) s m [.ref (qa_a y 0 0)].toArray below meth c H locs 0 0 (MQ below (va_Qv (fun u => (∀ a b f, a ≠ 5 → a ≠ 8 → a ≠ 9 → a ≠ 11 → ¬ (a = 2 ∧ f = 13) → u a b f = v a b f) ∧ u 8 0 6 = v 8 0 6 ∧ u 8 0 7 = v 8 0 7 ∧ (∀ i, i < qa_n y → ∀ c, c < qa_n y → u 5 i c = qm_ac (qa_n y) v i c (v 2 c 8) (bn i)) ∧ ∀ c, c < qa_n y → u 2 c 13 = 0) (fun u t => qa_W y u t) (qa_A y)) [.ref (qa_a y 0 0)].toArray s 0 0 (qa_A y)) (F0 m 29 ls []) := by
        intro d
        induction d with
        | zero =>
          intro j u H locs ls hkd hC hI2 hl
          obtain rfl : qa_n y = j := by omega
          refine lv_iload_n hx hb d_VF_agreeOnSensors_29 rfl (lv_at hl 0 rfl) ?_
          refine lv_aload_n hx hb d_VF_agreeOnSensors_30 rfl (lv_at hl 2 rfl) ?_
          refine qa_get (k := 0) (i := 0) (f := 0) (val := .int (nI (qa_n y))) E hC Nat.one_pos rfl rfl (by decide) f_VF_13 rfl rfl d_VF_agreeOnSensors_31 ?_
          refine lv_icmp_ge hx hb d_VF_agreeOnSensors_34 rfl (fun _ => ?_) (fun h9 => absurd (nI_le (Nat.le_refl _) (by omega)) h9)
          refine lv_aload_n hx hb d_VF_agreeOnSensors_62 rfl (lv_at hl 2 rfl) ?_
          refine qa_get (k := 0) (i := 0) (f := 3) (val := .ref (qa_a y 1 0)) E hC Nat.one_pos rfl rfl (by decide) f_VF_31 rfl rfl d_VF_agreeOnSensors_63 ?_
          refine lv_iload_n hx hb d_VF_agreeOnSensors_66 rfl (lv_at hl 1 rfl) ?_
          refine qa_ald (k := 1) (i := 0) (j := s0) E hC Nat.one_pos rfl rfl rfl rfl rfl hs0 d_VF_agreeOnSensors_67 ?_
          refine lv_iconst (v := 0) hx hb d_VF_agreeOnSensors_68 (by decide) ?_
          refine qa_put (k := 2) (i := s0) (f := 13) E hC hs0 rfl rfl (by decide) f_VF_149 rfl rfl rfl rfl d_VF_agreeOnSensors_69 (fun H locs hC => ?_)
          refine lv_iinc (v := nI (s0 + 1)) hx hb d_VF_agreeOnSensors_72 hl (k := 1) rfl (nI_1 s0) (by decide) rfl (fun ls hl => ?_)
          have hl : lv_has ls 3 [(1, .int (nI (s0 + 1))), (2, .int (nI (qa_n y))), (0, .ref (qa_a y 0 0))] := hl
          refine lv_goto hx hb d_VF_agreeOnSensors_75 rfl ?_
          refine ih (s0 + 1) _ H locs ls (by omega) hC ⟨fun a b f h5 h8 h9 h11 h2 => ?_, ?_, ?_, fun i hi => lt_s (fun c hc => ?_) ?_, lt_s (fun c hc => ?_) qa_up_s⟩ (lv_sub hl [0, 2] rfl)
          · rw [show qa_up u 2 s0 13 0 a b f = u a b f by simp only [qa_up]; rw [if_neg]; exact fun z => h2 ⟨z.1, z.2.2⟩, hI2.1 a b f h5 h11]; exact q1 a b f h5 h8 h9 h11 h2
          · rw [qa_up_k (by decide), hI2.1 8 0 6 (by decide) (by decide)]; exact q6
          · rw [qa_up_k (by decide), hI2.1 8 0 7 (by decide) (by decide)]; exact q7
          · rw [qa_up_k (by decide), hI2.2.1 i hi c (by omega)]; exact qK i hi c hc
          · rw [qa_up_k (by decide)]; exact hI2.2.2 i hi
          · rw [qa_up_i (by omega), hI2.1 2 c 13 (by decide) (by decide)]; exact qZ c hc
        | succ d ih2 =>
          intro j u H locs ls hkd hC hI2 hl
          have hj : j < qa_n y := by omega
          refine lv_iload_n hx hb d_VF_agreeOnSensors_29 rfl (lv_at hl 0 rfl) ?_
          refine lv_aload_n hx hb d_VF_agreeOnSensors_30 rfl (lv_at hl 2 rfl) ?_
          refine qa_get (k := 0) (i := 0) (f := 0) (val := .int (nI (qa_n y))) E hC Nat.one_pos rfl rfl (by decide) f_VF_13 rfl rfl d_VF_agreeOnSensors_31 ?_
          refine lv_icmp_ge hx hb d_VF_agreeOnSensors_34 rfl (fun h9 => absurd h9 (nI_ge hj (by omega))) (fun _ => ?_)
          refine lv_aload_n hx hb d_VF_agreeOnSensors_37 rfl (lv_at hl 2 rfl) ?_
          refine qa_get (k := 0) (i := 0) (f := 3) (val := .ref (qa_a y 1 0)) E hC Nat.one_pos rfl rfl (by decide) f_VF_31 rfl rfl d_VF_agreeOnSensors_38 ?_
          refine lv_iload_n hx hb d_VF_agreeOnSensors_41 rfl (lv_at hl 0 rfl) ?_
          refine qa_ald (k := 1) (i := 0) (j := j) E hC Nat.one_pos rfl rfl rfl rfl rfl hj d_VF_agreeOnSensors_42 ?_
          refine qa_get (k := 2) (i := j) (f := 3) (val := .ref (qa_a y 5 j)) E hC hj rfl rfl (by decide) f_VF_133 rfl rfl d_VF_agreeOnSensors_43 ?_
          refine lv_iload_n hx hb d_VF_agreeOnSensors_46 rfl (lv_at hl 1 rfl) ?_
          refine lv_aload_n hx hb d_VF_agreeOnSensors_47 rfl (lv_at hl 2 rfl) ?_
          refine qa_get (k := 0) (i := 0) (f := 4) (val := .ref (qa_a y 8 0)) E hC Nat.one_pos rfl rfl (by decide) f_VF_40 rfl rfl d_VF_agreeOnSensors_48 ?_
          refine lv_iload_n hx hb d_VF_agreeOnSensors_51 rfl (lv_at hl 0 rfl) ?_
          refine qa_mV (k := 8) (i := 0) (As := [.int (nI j)]) E hC (c_RL_agreedBy l y u j s0 (bn j) hj hs0 (by rw [hI2.1 8 0 4 (by decide) (by decide)]; exact q4) (by rw [hI2.1 2 j 11 (by decide) (by decide), q1 2 j 11 (by decide) (by decide) (by decide) (by decide) (by decide)]; exact (hbn j hj).1) (by have := (hbn j hj).2; omega)) Nat.one_pos rfl rfl k_VF_204 (qa_fitR (by decide) (by decide)) rfl hl.1 rfl (Nat.le_of_ble_eq_true rfl) d_VF_agreeOnSensors_52 (fun r2 u2 H locs hp2 hC => ?_)
          have e5 : r2 = qm_ac (qa_n y) v j s0 (v 2 s0 8) (bn j) := by
            rw [hp2.1]
            unfold qm_ac
            rw [hI2.1 8 0 5 (by decide) (by decide), q5, hI2.1 2 j 11 (by decide) (by decide), q1 2 j 11 (by decide) (by decide) (by decide) (by decide) (by decide), show u 9 0 = u1 9 0 from funext (fun f => hI2.1 9 0 f (by decide) (by decide))]
            by_cases c1 : j = s0
            · rw [if_pos c1, if_pos c1]
            · rw [if_neg c1, if_neg c1]
              by_cases c2 : qm_in (v 2 j 11) (nI s0) = true
              · rw [if_pos c2, if_pos c2]
                exact qm_mkL_ag hn7 hs0 hj c1 (hbn j hj).2 (by omega) (by have := (hbn j hj).2; omega) qS
              · rw [if_neg c2, if_neg c2]
          refine qa_ist (k := 5) (i := j) (j := s0) E hC hj rfl rfl rfl hs0 d_VF_agreeOnSensors_55 (fun H locs hC => ?_)
          refine lv_iinc (v := nI (j + 1)) hx hb d_VF_agreeOnSensors_56 hl (k := 0) rfl (nI_1 j) (by decide) rfl (fun ls hl => ?_)
          have hl : lv_has ls 3 [(2, .int (nI (j + 1))), (1, .int (nI s0)), (0, .ref (qa_a y 0 0))] := hl
          refine lv_goto hx hb d_VF_agreeOnSensors_59 rfl ?_
          refine ih2 (j + 1) _ H locs ls (by omega) hC ⟨fun a b f hK h11 => ?_, fun i hi c hc => ?_, lt_s (fun i hi => ?_) ?_⟩ (lv_sub hl [0, 1, 2] rfl)
          · rw [qa_up_k hK, hp2.2 a h11]; exact hI2.1 a b f hK h11
          · rw [qa_up_f hc, hp2.2 5 (by decide)]; exact hI2.2.1 i hi c hc
          · rw [qa_up_i (by omega), hp2.2 5 (by decide)]; exact hI2.2.2 i hi
          · rw [qa_up_s, e5]
      exact loop2 (qa_n y) 0 u1 H locs ls (by omega) hC ⟨fun _ _ _ _ _ => rfl, fun _ _ _ _ => rfl, lt_0⟩ (lv_sub hl [0, 1, 2] rfl)
  refine lv_iconst (v := 0) hx hb d_VF_agreeOnSensors_0 (by decide) ?_
  refine lv_istore_n hx hb d_VF_agreeOnSensors_1 rfl hl (by decide) rfl (fun ls hl => ?_)
  have hl : lv_has ls 3 [(1, .int 0), (0, .ref (qa_a y 0 0))] := hl
  exact loop (qa_n y) 0 v _ _ ls (by omega) hC ⟨fun _ _ _ _ _ _ _ _ => rfl, rfl, rfl, fun i hi c hc => absurd hc (by omega), fun c hc => absurd hc (by omega)⟩ (lv_sub hl [0, 1] rfl)

set_option maxHeartbeats 4000000 in
set_option maxRecDepth 100000 in
theorem c_VF_agreeOnAccused (l : Launch) (y : qa_L) (v : qa_M) (R : Nat) (bn : Nat → Nat) (hR : v 8 0 7 = nI R) (hRm : R ≤ qa_m y) (hbn : ∀ i, i < qa_n y → qm_bear (qa_m y) (v 2 i 11) = nI (bn i) ∧ bn i ≤ R) : qa_Mv l y_VF_agreeOnAccused b_VF_agreeOnAccused 4 7 [.ref (qa_a y 0 0)] y v (fun u => (∀ a b f, a ≠ 6 → a ≠ 8 → a ≠ 9 → a ≠ 11 → u a b f = v a b f) ∧ u 8 0 6 = v 8 0 6 ∧ u 8 0 7 = v 8 0 7 ∧ (∀ i, i < qa_n y → ∀ c, c < qa_n y → u 6 i c = qm_ac (qa_n y) v i c (v 2 c 13) (bn i) &&& qm_all (qa_n y))) := by
  refine qa_ofMv (plainFor_of_name (by decide)) (Nat.le_of_ble_eq_true rfl) ?_
  intro p e s m below meth c ls E hr hlocks hC hl
  have E : qa_E p m c b_VF_agreeOnAccused 4 s _ "VotedFrames" y := E
  have F := E.1
  have hx := F.1
  have hb := F.2.1
  have hown : s.vm.findClass "VotedFrames" = some m.cls := F.2.2.2.1
  have hts := F.2.2.2.2
  have hn4 : 4 ≤ qa_n y := E.2.1.2.2.1
  have hn7 : qa_n y ≤ 7 := E.2.1.2.2.2.1
  have hl : lv_has ls 4 [(0, .ref (qa_a y 0 0))] := hl
  have hm2 : qa_m y ≤ 2 := by have := E.2.1.2.2.2.2.1; omega
  have loop : ∀ (d s0 : Nat) (u : qa_M) (H : Heap) (locs : List Loc) (ls : Array Slot), s0 + d = qa_n y → qa_C y u s H locs → ((∀ a b f, a ≠ 6 → a ≠ 8 → a ≠ 9 → a ≠ 11 → u a b f = v a b f) ∧ u 8 0 6 = v 8 0 6 ∧ u 8 0 7 = v 8 0 7 ∧ (∀ i, i < qa_n y → ∀ c, c < s0 → u 6 i c = qm_ac (qa_n y) v i c (v 2 c 13) (bn i) &&& qm_all (qa_n y))) → lv_has ls 4 [(2, .int (nI s0)), (1, .int (qm_all (qa_n y))), (0, .ref (qa_a y 0 0))] → W p l e (qa_R 7) s m [.ref (qa_a y 0 0)].toArray below meth c H locs 0 0 (MQ below (va_Qv (fun u => (∀ a b f, a ≠ 6 → a ≠ 8 → a ≠ 9 → a ≠ 11 → u a b f = v a b f) ∧ u 8 0 6 = v 8 0 6 ∧ u 8 0 7 = v 8 0 7 ∧ (∀ i, i < qa_n y → ∀ c, c < qa_n y → u 6 i c = qm_ac (qa_n y) v i c (v 2 c 13) (bn i) &&& qm_all (qa_n y))) (fun u t => qa_W y u t) (qa_A y)) [.ref (qa_a y 0 0)].toArray s 0 0 (qa_A y)) (F0 m 11 ls []) := by
    intro d
    induction d with
    | zero =>
      intro s0 u H locs ls hkd hC hI hl
      obtain rfl : qa_n y = s0 := by omega
      refine lv_iload_n hx hb d_VF_agreeOnAccused_11 rfl (lv_at hl 0 rfl) ?_
      refine lv_aload_n hx hb d_VF_agreeOnAccused_12 rfl (lv_at hl 2 rfl) ?_
      refine qa_get (k := 0) (i := 0) (f := 0) (val := .int (nI (qa_n y))) E hC Nat.one_pos rfl rfl (by decide) f_VF_13 rfl rfl d_VF_agreeOnAccused_13 ?_
      refine lv_icmp_ge hx hb d_VF_agreeOnAccused_16 rfl (fun _ => ?_) (fun h9 => absurd (nI_le (Nat.le_refl _) (by omega)) h9)
      exact qa_mvret E hC hr hlocks hI d_VF_agreeOnAccused_79
    | succ d ih =>
      intro s0 u H locs ls hkd hC hI hl
      have hs0 : s0 < qa_n y := by omega
      refine lv_iload_n hx hb d_VF_agreeOnAccused_11 rfl (lv_at hl 0 rfl) ?_
      refine lv_aload_n hx hb d_VF_agreeOnAccused_12 rfl (lv_at hl 2 rfl) ?_
      refine qa_get (k := 0) (i := 0) (f := 0) (val := .int (nI (qa_n y))) E hC Nat.one_pos rfl rfl (by decide) f_VF_13 rfl rfl d_VF_agreeOnAccused_13 ?_
      refine lv_icmp_ge hx hb d_VF_agreeOnAccused_16 rfl (fun h9 => absurd h9 (nI_ge hs0 (by omega))) (fun _ => ?_)
      refine lv_aload_n hx hb d_VF_agreeOnAccused_19 rfl (lv_at hl 2 rfl) ?_
      refine qa_get (k := 0) (i := 0) (f := 4) (val := .ref (qa_a y 8 0)) E hC Nat.one_pos rfl rfl (by decide) f_VF_40 rfl rfl d_VF_agreeOnAccused_20 ?_
      refine lv_iload_n hx hb d_VF_agreeOnAccused_23 rfl (lv_at hl 0 rfl) ?_
      refine lv_aload_n hx hb d_VF_agreeOnAccused_24 rfl (lv_at hl 2 rfl) ?_
      refine qa_get (k := 0) (i := 0) (f := 3) (val := .ref (qa_a y 1 0)) E hC Nat.one_pos rfl rfl (by decide) f_VF_31 rfl rfl d_VF_agreeOnAccused_25 ?_
      refine lv_iload_n hx hb d_VF_agreeOnAccused_28 rfl (lv_at hl 0 rfl) ?_
      refine qa_ald (k := 1) (i := 0) (j := s0) E hC Nat.one_pos rfl rfl rfl rfl rfl hs0 d_VF_agreeOnAccused_29 ?_
      refine qa_get (k := 2) (i := s0) (f := 13) (val := .int (u 2 s0 13)) E hC hs0 rfl rfl (by decide) f_VF_149 rfl rfl d_VF_agreeOnAccused_30 ?_
      refine qa_mVv (k := 8) (i := 0) (As := [.int (nI s0), .int (u 2 s0 13)]) E hC (c_RL_spreadOut l y u s0 (u 2 s0 13) R hs0 (by rw [hI.2.2.1]; exact hR) hRm) Nat.one_pos rfl rfl k_VF_201 (qa_fitR (by decide) (by decide)) rfl hl.1 rfl (Nat.le_of_ble_eq_true rfl) d_VF_agreeOnAccused_33 (fun u1 H locs hp1 hC => ?_)
      refine lv_iconst (v := 0) hx hb d_VF_agreeOnAccused_36 (by decide) ?_
      refine lv_istore_n hx hb d_VF_agreeOnAccused_37 rfl hl (by decide) rfl (fun ls hl => ?_)
      have hl : lv_has ls 4 [(3, .int 0), (2, .int (nI s0)), (1, .int (qm_all (qa_n y))), (0, .ref (qa_a y 0 0))] := hl
      have hg : qm_gt u = qm_gt v := qm_gt_m (fun i => hI.1 2 i 9 (by decide) (by decide) (by decide) (by decide)) (fun i => hI.1 2 i 10 (by decide) (by decide) (by decide) (by decide)) (fun i => hI.1 2 i 12 (by decide) (by decide) (by decide) (by decide)) hI.2.1
      have hval : u 2 s0 13 = v 2 s0 13 := hI.1 2 s0 13 (by decide) (by decide) (by decide) (by decide)
      rw [hg, hval] at hp1
      have q1 : ∀ a b f, a ≠ 6 → a ≠ 8 → a ≠ 9 → a ≠ 11 → u1 a b f = v a b f := fun a b f h5 h8 h9 h11 => by rw [hp1.1 a h8 h9]; exact hI.1 a b f h5 h8 h9 h11
      have q6 : u1 8 0 6 = v 8 0 6 := hp1.2.2.2.1.trans hI.2.1
      have q7 : u1 8 0 7 = v 8 0 7 := hp1.2.2.2.2.1.trans hI.2.2.1
      have qK : ∀ i, i < qa_n y → ∀ c, c < s0 → u1 6 i c = qm_ac (qa_n y) v i c (v 2 c 13) (bn i) &&& qm_all (qa_n y) := fun i hi c hc => by rw [hp1.1 6 (by decide) (by decide)]; exact hI.2.2.2 i hi c hc
      have q4 : u1 8 0 4 = nI s0 := hp1.2.1
      have q5 := hp1.2.2.1
      have qS := hp1.2.2.2.2.2
      have loop2 : ∀ (d j : Nat) (u : qa_M) (H : Heap) (locs : List Loc) (ls : Array Slot), j + d = qa_n y → qa_C y u s H locs → ((∀ a b f, a ≠ 6 → a ≠ 11 → u a b f = u1 a b f) ∧ (∀ i, i < qa_n y → ∀ c, c ≠ s0 → u 6 i c = u1 6 i c) ∧ ∀ i, i < j → u 6 i s0 = qm_ac (qa_n y) v i s0 (v 2 s0 13) (bn i) &&& qm_all (qa_n y)) → lv_has ls 4 [(3, .int (nI j)), (2, .int (nI s0)), (1, .int (qm_all (qa_n y))), (0, .ref (qa_a y 0 0))] → W p l e (qa_R 7) s m [.ref (qa_a y 0 0)].toArray below meth c H locs 0 0 (MQ below (va_Qv (fun u => (∀ a b f, a ≠ 6 → a ≠ 8 → a ≠ 9 → a ≠ 11 → u a b f = v a b f) ∧ u 8 0 6 = v 8 0 6 ∧ u 8 0 7 = v 8 0 7 ∧ (∀ i, i < qa_n y → ∀ c, c < qa_n y → u 6 i c = qm_ac (qa_n y) v i c (v 2 c 13) (bn i) &&& qm_all (qa_n y))) (fun u t => qa_W y u t) (qa_A y)) [.ref (qa_a y 0 0)].toArray s 0 0 (qa_A y)) (F0 m 38 ls []) := by
        intro d
        induction d with
        | zero =>
          intro j u H locs ls hkd hC hI2 hl
          obtain rfl : qa_n y = j := by omega
          refine lv_iload_n hx hb d_VF_agreeOnAccused_38 rfl (lv_at hl 0 rfl) ?_
          refine lv_aload_n hx hb d_VF_agreeOnAccused_39 rfl (lv_at hl 3 rfl) ?_
          refine qa_get (k := 0) (i := 0) (f := 0) (val := .int (nI (qa_n y))) E hC Nat.one_pos rfl rfl (by decide) f_VF_13 rfl rfl d_VF_agreeOnAccused_40 ?_
          refine lv_icmp_ge hx hb d_VF_agreeOnAccused_43 rfl (fun _ => ?_) (fun h9 => absurd (nI_le (Nat.le_refl _) (by omega)) h9)
          refine lv_iinc (v := nI (s0 + 1)) hx hb d_VF_agreeOnAccused_73 hl (k := 1) rfl (nI_1 s0) (by decide) rfl (fun ls hl => ?_)
          have hl : lv_has ls 4 [(2, .int (nI (s0 + 1))), (3, .int (nI (qa_n y))), (1, .int (qm_all (qa_n y))), (0, .ref (qa_a y 0 0))] := hl
          refine lv_goto hx hb d_VF_agreeOnAccused_76 rfl ?_
          refine ih (s0 + 1) _ H locs ls (by omega) hC ⟨fun a b f h5 h8 h9 h11 => ?_, ?_, ?_, fun i hi => lt_s (fun c hc => ?_) ?_⟩ (lv_sub hl [0, 2, 3] rfl)
          · rw [hI2.1 a b f h5 h11]; exact q1 a b f h5 h8 h9 h11
          · rw [hI2.1 8 0 6 (by decide) (by decide)]; exact q6
          · rw [hI2.1 8 0 7 (by decide) (by decide)]; exact q7
          · rw [hI2.2.1 i hi c (by omega)]; exact qK i hi c hc
          · exact hI2.2.2 i hi
        | succ d ih2 =>
          intro j u H locs ls hkd hC hI2 hl
          have hj : j < qa_n y := by omega
          refine lv_iload_n hx hb d_VF_agreeOnAccused_38 rfl (lv_at hl 0 rfl) ?_
          refine lv_aload_n hx hb d_VF_agreeOnAccused_39 rfl (lv_at hl 3 rfl) ?_
          refine qa_get (k := 0) (i := 0) (f := 0) (val := .int (nI (qa_n y))) E hC Nat.one_pos rfl rfl (by decide) f_VF_13 rfl rfl d_VF_agreeOnAccused_40 ?_
          refine lv_icmp_ge hx hb d_VF_agreeOnAccused_43 rfl (fun h9 => absurd h9 (nI_ge hj (by omega))) (fun _ => ?_)
          refine lv_aload_n hx hb d_VF_agreeOnAccused_46 rfl (lv_at hl 3 rfl) ?_
          refine qa_get (k := 0) (i := 0) (f := 3) (val := .ref (qa_a y 1 0)) E hC Nat.one_pos rfl rfl (by decide) f_VF_31 rfl rfl d_VF_agreeOnAccused_47 ?_
          refine lv_iload_n hx hb d_VF_agreeOnAccused_50 rfl (lv_at hl 0 rfl) ?_
          refine qa_ald (k := 1) (i := 0) (j := j) E hC Nat.one_pos rfl rfl rfl rfl rfl hj d_VF_agreeOnAccused_51 ?_
          refine qa_get (k := 2) (i := j) (f := 4) (val := .ref (qa_a y 6 j)) E hC hj rfl rfl (by decide) f_VF_136 rfl rfl d_VF_agreeOnAccused_52 ?_
          refine lv_iload_n hx hb d_VF_agreeOnAccused_55 rfl (lv_at hl 1 rfl) ?_
          refine lv_aload_n hx hb d_VF_agreeOnAccused_56 rfl (lv_at hl 3 rfl) ?_
          refine qa_get (k := 0) (i := 0) (f := 4) (val := .ref (qa_a y 8 0)) E hC Nat.one_pos rfl rfl (by decide) f_VF_40 rfl rfl d_VF_agreeOnAccused_57 ?_
          refine lv_iload_n hx hb d_VF_agreeOnAccused_60 rfl (lv_at hl 0 rfl) ?_
          refine qa_mV (k := 8) (i := 0) (As := [.int (nI j)]) E hC (c_RL_agreedBy l y u j s0 (bn j) hj hs0 (by rw [hI2.1 8 0 4 (by decide) (by decide)]; exact q4) (by rw [hI2.1 2 j 11 (by decide) (by decide), q1 2 j 11 (by decide) (by decide) (by decide) (by decide)]; exact (hbn j hj).1) (by have := (hbn j hj).2; omega)) Nat.one_pos rfl rfl k_VF_204 (qa_fitR (by decide) (by decide)) rfl hl.1 rfl (Nat.le_of_ble_eq_true rfl) d_VF_agreeOnAccused_61 (fun r2 u2 H locs hp2 hC => ?_)
          have e5 : r2 = qm_ac (qa_n y) v j s0 (v 2 s0 13) (bn j) := by
            rw [hp2.1]
            unfold qm_ac
            rw [hI2.1 8 0 5 (by decide) (by decide), q5, hI2.1 2 j 11 (by decide) (by decide), q1 2 j 11 (by decide) (by decide) (by decide) (by decide), show u 9 0 = u1 9 0 from funext (fun f => hI2.1 9 0 f (by decide) (by decide))]
            by_cases c1 : j = s0
            · rw [if_pos c1, if_pos c1]
            · rw [if_neg c1, if_neg c1]
              by_cases c2 : qm_in (v 2 j 11) (nI s0) = true
              · rw [if_pos c2, if_pos c2]
                exact qm_mkL_ag hn7 hs0 hj c1 (hbn j hj).2 (by omega) (by have := (hbn j hj).2; omega) qS
              · rw [if_neg c2, if_neg c2]
          refine lv_iload_n hx hb d_VF_agreeOnAccused_64 rfl (lv_at hl 2 rfl) ?_
          refine lv_iand hx hb d_VF_agreeOnAccused_65 ?_
          refine qa_ist (k := 6) (i := j) (j := s0) E hC hj rfl rfl rfl hs0 d_VF_agreeOnAccused_66 (fun H locs hC => ?_)
          refine lv_iinc (v := nI (j + 1)) hx hb d_VF_agreeOnAccused_67 hl (k := 0) rfl (nI_1 j) (by decide) rfl (fun ls hl => ?_)
          have hl : lv_has ls 4 [(3, .int (nI (j + 1))), (2, .int (nI s0)), (1, .int (qm_all (qa_n y))), (0, .ref (qa_a y 0 0))] := hl
          refine lv_goto hx hb d_VF_agreeOnAccused_70 rfl ?_
          refine ih2 (j + 1) _ H locs ls (by omega) hC ⟨fun a b f hK h11 => ?_, fun i hi c hc => ?_, lt_s (fun i hi => ?_) ?_⟩ (lv_sub hl [0, 1, 2, 3] rfl)
          · rw [qa_up_k hK, hp2.2 a h11]; exact hI2.1 a b f hK h11
          · rw [qa_up_f hc, hp2.2 6 (by decide)]; exact hI2.2.1 i hi c hc
          · rw [qa_up_i (by omega), hp2.2 6 (by decide)]; exact hI2.2.2 i hi
          · rw [qa_up_s, e5]
      exact loop2 (qa_n y) 0 u1 H locs ls (by omega) hC ⟨fun _ _ _ _ _ => rfl, fun _ _ _ _ => rfl, lt_0⟩ (lv_sub hl [0, 1, 2, 3] rfl)
  refine lv_iconst (v := 1) hx hb d_VF_agreeOnAccused_0 (by decide) ?_
  refine lv_aload_n hx hb d_VF_agreeOnAccused_1 rfl (lv_at hl 0 rfl) ?_
  refine qa_get (k := 0) (i := 0) (f := 0) (val := .int (nI (qa_n y))) E hC Nat.one_pos rfl rfl (by decide) f_VF_13 rfl rfl d_VF_agreeOnAccused_2 ?_
  refine lv_ishl hx hb d_VF_agreeOnAccused_5 ?_
  refine lv_iconst (v := 1) hx hb d_VF_agreeOnAccused_6 (by decide) ?_
  refine lv_isub hx hb d_VF_agreeOnAccused_7 ?_
  refine lv_istore_n hx hb d_VF_agreeOnAccused_8 rfl hl (by decide) rfl (fun ls hl => ?_)
  have hl : lv_has ls 4 [(1, .int (((1 : Int32) <<< ((nI (qa_n y)) &&& 31)) - 1)), (0, .ref (qa_a y 0 0))] := hl
  refine lv_iconst (v := 0) hx hb d_VF_agreeOnAccused_9 (by decide) ?_
  refine lv_istore_n hx hb d_VF_agreeOnAccused_10 rfl hl (by decide) rfl (fun ls hl => ?_)
  have hl : lv_has ls 4 [(2, .int 0), (1, .int (((1 : Int32) <<< ((nI (qa_n y)) &&& 31)) - 1)), (0, .ref (qa_a y 0 0))] := hl
  exact loop (qa_n y) 0 v _ _ ls (by omega) hC ⟨fun _ _ _ _ _ _ _ => rfl, rfl, rfl, fun i hi c hc => absurd hc (by omega)⟩ (lv_sub hl [0, 1, 2] rfl)
end
