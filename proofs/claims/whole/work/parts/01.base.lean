/-! the tables' words (the skeleton's PART A), and the words that methods carry: those of the tables that a callee keeps -/
-- ===== PART A: goes FIRST, ahead of the names: the tables' words, and 'selects' of the private methods out of them =====
/-- a private method of a class that the tables say can be made, by its rows of tables_1 -/
def lw_okq (q : MethodName × Nat) : Prop := (q.1.cls ≠ "java/lang/invoke/MethodHandle" ∧ q.1.cls ≠ "java/lang/invoke/VarHandle") ∧ Cond.instantiable q.1.cls q.2 ∈ tables_1 ∧ Cond.privateMethod q.1 ∈ tables_1 ∧ Cond.instanceMethod q.1 ∈ tables_1
theorem lw_p0 : lw_okq (⟨"VotedFrames", "isNode", "(I)Z"⟩, 12) := ⟨⟨by decide +kernel, by decide +kernel⟩, List.mem_of_getElem? (i := 10) (by decide +kernel), List.mem_of_getElem? (i := 218) (by decide +kernel), List.mem_of_getElem? (i := 219) (by decide +kernel)⟩
theorem lw_p1 : lw_okq (⟨"VotedFrames", "fitsInstruction", "(II)Z"⟩, 12) := ⟨⟨by decide +kernel, by decide +kernel⟩, List.mem_of_getElem? (i := 10) (by decide +kernel), List.mem_of_getElem? (i := 244) (by decide +kernel), List.mem_of_getElem? (i := 245) (by decide +kernel)⟩
theorem lw_p2 : lw_okq (⟨"VotedFrames", "runFrame", "()I"⟩, 12) := ⟨⟨by decide +kernel, by decide +kernel⟩, List.mem_of_getElem? (i := 10) (by decide +kernel), List.mem_of_getElem? (i := 268) (by decide +kernel), List.mem_of_getElem? (i := 269) (by decide +kernel)⟩
theorem lw_p3 : lw_okq (⟨"VotedFrames", "openLines", "()V"⟩, 12) := ⟨⟨by decide +kernel, by decide +kernel⟩, List.mem_of_getElem? (i := 10) (by decide +kernel), List.mem_of_getElem? (i := 272) (by decide +kernel), List.mem_of_getElem? (i := 273) (by decide +kernel)⟩
theorem lw_p4 : lw_okq (⟨"VotedFrames", "agreeOnSensors", "()V"⟩, 12) := ⟨⟨by decide +kernel, by decide +kernel⟩, List.mem_of_getElem? (i := 10) (by decide +kernel), List.mem_of_getElem? (i := 304) (by decide +kernel), List.mem_of_getElem? (i := 305) (by decide +kernel)⟩
theorem lw_p5 : lw_okq (⟨"VotedFrames$Relay", "send", "(IIIII)V"⟩, 8) := ⟨⟨by decide +kernel, by decide +kernel⟩, List.mem_of_getElem? (i := 100) (by decide +kernel), List.mem_of_getElem? (i := 312) (by decide +kernel), List.mem_of_getElem? (i := 313) (by decide +kernel)⟩
theorem lw_p6 : lw_okq (⟨"VotedFrames$Relay", "placeOf", "(II)I"⟩, 8) := ⟨⟨by decide +kernel, by decide +kernel⟩, List.mem_of_getElem? (i := 100) (by decide +kernel), List.mem_of_getElem? (i := 317) (by decide +kernel), List.mem_of_getElem? (i := 318) (by decide +kernel)⟩
theorem lw_p7 : lw_okq (⟨"VotedFrames$Relay", "got", "(III)I"⟩, 8) := ⟨⟨by decide +kernel, by decide +kernel⟩, List.mem_of_getElem? (i := 100) (by decide +kernel), List.mem_of_getElem? (i := 321) (by decide +kernel), List.mem_of_getElem? (i := 322) (by decide +kernel)⟩
theorem lw_p8 : lw_okq (⟨"VotedFrames$Relay", "follow", "(II)I"⟩, 8) := ⟨⟨by decide +kernel, by decide +kernel⟩, List.mem_of_getElem? (i := 100) (by decide +kernel), List.mem_of_getElem? (i := 329) (by decide +kernel), List.mem_of_getElem? (i := 330) (by decide +kernel)⟩
theorem lw_p9 : lw_okq (⟨"VotedFrames$Relay", "make", "(LVotedFrames$Node;III)I"⟩, 8) := ⟨⟨by decide +kernel, by decide +kernel⟩, List.mem_of_getElem? (i := 100) (by decide +kernel), List.mem_of_getElem? (i := 337) (by decide +kernel), List.mem_of_getElem? (i := 338) (by decide +kernel)⟩
theorem lw_p10 : lw_okq (⟨"VotedFrames", "runDueTasks", "()V"⟩, 12) := ⟨⟨by decide +kernel, by decide +kernel⟩, List.mem_of_getElem? (i := 10) (by decide +kernel), List.mem_of_getElem? (i := 344) (by decide +kernel), List.mem_of_getElem? (i := 345) (by decide +kernel)⟩
theorem lw_p11 : lw_okq (⟨"VotedFrames", "leastCorrect", "()I"⟩, 12) := ⟨⟨by decide +kernel, by decide +kernel⟩, List.mem_of_getElem? (i := 10) (by decide +kernel), List.mem_of_getElem? (i := 348) (by decide +kernel), List.mem_of_getElem? (i := 349) (by decide +kernel)⟩
theorem lw_p12 : lw_okq (⟨"VotedFrames", "runOnAllNodes", "(I)V"⟩, 12) := ⟨⟨by decide +kernel, by decide +kernel⟩, List.mem_of_getElem? (i := 10) (by decide +kernel), List.mem_of_getElem? (i := 356) (by decide +kernel), List.mem_of_getElem? (i := 357) (by decide +kernel)⟩
theorem lw_p13 : lw_okq (⟨"VotedFrames$StackMachine", "refusalOf", "(I)I"⟩, 2) := ⟨⟨by decide +kernel, by decide +kernel⟩, List.mem_of_getElem? (i := 164) (by decide +kernel), List.mem_of_getElem? (i := 364) (by decide +kernel), List.mem_of_getElem? (i := 365) (by decide +kernel)⟩
theorem lw_p14 : lw_okq (⟨"VotedFrames$StackMachine", "pop", "()I"⟩, 2) := ⟨⟨by decide +kernel, by decide +kernel⟩, List.mem_of_getElem? (i := 164) (by decide +kernel), List.mem_of_getElem? (i := 374) (by decide +kernel), List.mem_of_getElem? (i := 375) (by decide +kernel)⟩
theorem lw_p15 : lw_okq (⟨"VotedFrames$StackMachine", "push", "(I)V"⟩, 2) := ⟨⟨by decide +kernel, by decide +kernel⟩, List.mem_of_getElem? (i := 164) (by decide +kernel), List.mem_of_getElem? (i := 384) (by decide +kernel), List.mem_of_getElem? (i := 385) (by decide +kernel)⟩
def lw_privs_1 : List (MethodName × Nat) := [(⟨"VotedFrames", "isNode", "(I)Z"⟩, 12), (⟨"VotedFrames", "fitsInstruction", "(II)Z"⟩, 12), (⟨"VotedFrames", "runFrame", "()I"⟩, 12), (⟨"VotedFrames", "openLines", "()V"⟩, 12), (⟨"VotedFrames", "agreeOnSensors", "()V"⟩, 12), (⟨"VotedFrames$Relay", "send", "(IIIII)V"⟩, 8), (⟨"VotedFrames$Relay", "placeOf", "(II)I"⟩, 8), (⟨"VotedFrames$Relay", "got", "(III)I"⟩, 8), (⟨"VotedFrames$Relay", "follow", "(II)I"⟩, 8), (⟨"VotedFrames$Relay", "make", "(LVotedFrames$Node;III)I"⟩, 8), (⟨"VotedFrames", "runDueTasks", "()V"⟩, 12), (⟨"VotedFrames", "leastCorrect", "()I"⟩, 12), (⟨"VotedFrames", "runOnAllNodes", "(I)V"⟩, 12), (⟨"VotedFrames$StackMachine", "refusalOf", "(I)I"⟩, 2), (⟨"VotedFrames$StackMachine", "pop", "()I"⟩, 2), (⟨"VotedFrames$StackMachine", "push", "(I)V"⟩, 2)]
theorem lw_r1 : ∀ q ∈ lw_privs_1, lw_okq q := List.forall_mem_cons.mpr ⟨lw_p0, List.forall_mem_cons.mpr ⟨lw_p1, List.forall_mem_cons.mpr ⟨lw_p2, List.forall_mem_cons.mpr ⟨lw_p3, List.forall_mem_cons.mpr ⟨lw_p4, List.forall_mem_cons.mpr ⟨lw_p5, List.forall_mem_cons.mpr ⟨lw_p6, List.forall_mem_cons.mpr ⟨lw_p7, List.forall_mem_cons.mpr ⟨lw_p8, List.forall_mem_cons.mpr ⟨lw_p9, List.forall_mem_cons.mpr ⟨lw_p10, List.forall_mem_cons.mpr ⟨lw_p11, List.forall_mem_cons.mpr ⟨lw_p12, List.forall_mem_cons.mpr ⟨lw_p13, List.forall_mem_cons.mpr ⟨lw_p14, List.forall_mem_cons.mpr ⟨lw_p15, fun _ h => absurd h List.not_mem_nil⟩⟩⟩⟩⟩⟩⟩⟩⟩⟩⟩⟩⟩⟩⟩⟩
theorem lw_p16 : lw_okq (⟨"VotedFrames$StackMachine", "fetch", "(II[I[I)I"⟩, 2) := ⟨⟨by decide +kernel, by decide +kernel⟩, List.mem_of_getElem? (i := 164) (by decide +kernel), List.mem_of_getElem? (i := 388) (by decide +kernel), List.mem_of_getElem? (i := 389) (by decide +kernel)⟩
theorem lw_p17 : lw_okq (⟨"VotedFrames", "vote", "(LVotedFrames$Node;I)V"⟩, 12) := ⟨⟨by decide +kernel, by decide +kernel⟩, List.mem_of_getElem? (i := 10) (by decide +kernel), List.mem_of_getElem? (i := 392) (by decide +kernel), List.mem_of_getElem? (i := 393) (by decide +kernel)⟩
theorem lw_p18 : lw_okq (⟨"VotedFrames", "fillBallot", "(LVotedFrames$Node;)I"⟩, 12) := ⟨⟨by decide +kernel, by decide +kernel⟩, List.mem_of_getElem? (i := 10) (by decide +kernel), List.mem_of_getElem? (i := 396) (by decide +kernel), List.mem_of_getElem? (i := 397) (by decide +kernel)⟩
theorem lw_p19 : lw_okq (⟨"VotedFrames", "dissentersFrom", "(ILVotedFrames$Node;)I"⟩, 12) := ⟨⟨by decide +kernel, by decide +kernel⟩, List.mem_of_getElem? (i := 10) (by decide +kernel), List.mem_of_getElem? (i := 404) (by decide +kernel), List.mem_of_getElem? (i := 405) (by decide +kernel)⟩
theorem lw_p20 : lw_okq (⟨"VotedFrames", "agreeOnAccused", "()V"⟩, 12) := ⟨⟨by decide +kernel, by decide +kernel⟩, List.mem_of_getElem? (i := 10) (by decide +kernel), List.mem_of_getElem? (i := 408) (by decide +kernel), List.mem_of_getElem? (i := 409) (by decide +kernel)⟩
theorem lw_p21 : lw_okq (⟨"VotedFrames", "strikeOut", "()I"⟩, 12) := ⟨⟨by decide +kernel, by decide +kernel⟩, List.mem_of_getElem? (i := 10) (by decide +kernel), List.mem_of_getElem? (i := 412) (by decide +kernel), List.mem_of_getElem? (i := 413) (by decide +kernel)⟩
theorem lw_p22 : lw_okq (⟨"VotedFrames", "convictedBy", "(LVotedFrames$Node;)I"⟩, 12) := ⟨⟨by decide +kernel, by decide +kernel⟩, List.mem_of_getElem? (i := 10) (by decide +kernel), List.mem_of_getElem? (i := 416) (by decide +kernel), List.mem_of_getElem? (i := 417) (by decide +kernel)⟩
theorem lw_p23 : lw_okq (⟨"VotedFrames", "correctClocks", "()V"⟩, 12) := ⟨⟨by decide +kernel, by decide +kernel⟩, List.mem_of_getElem? (i := 10) (by decide +kernel), List.mem_of_getElem? (i := 426) (by decide +kernel), List.mem_of_getElem? (i := 427) (by decide +kernel)⟩
theorem lw_p24 : lw_okq (⟨"VotedFrames", "correctionFor", "(LVotedFrames$Node;)I"⟩, 12) := ⟨⟨by decide +kernel, by decide +kernel⟩, List.mem_of_getElem? (i := 10) (by decide +kernel), List.mem_of_getElem? (i := 430) (by decide +kernel), List.mem_of_getElem? (i := 431) (by decide +kernel)⟩
theorem lw_p25 : lw_okq (⟨"VotedFramesModel", "node", "(I)Z"⟩, 27) := ⟨⟨by decide +kernel, by decide +kernel⟩, List.mem_of_getElem? (i := 502) (by decide +kernel), List.mem_of_getElem? (i := 594) (by decide +kernel), List.mem_of_getElem? (i := 595) (by decide +kernel)⟩
theorem lw_p26 : lw_okq (⟨"VotedFramesModel", "one", "()V"⟩, 27) := ⟨⟨by decide +kernel, by decide +kernel⟩, List.mem_of_getElem? (i := 502) (by decide +kernel), List.mem_of_getElem? (i := 629) (by decide +kernel), List.mem_of_getElem? (i := 630) (by decide +kernel)⟩
theorem lw_p27 : lw_okq (⟨"VotedFramesModel", "agrees", "(III)I"⟩, 27) := ⟨⟨by decide +kernel, by decide +kernel⟩, List.mem_of_getElem? (i := 502) (by decide +kernel), List.mem_of_getElem? (i := 633) (by decide +kernel), List.mem_of_getElem? (i := 634) (by decide +kernel)⟩
theorem lw_p28 : lw_okq (⟨"VotedFramesModel", "member", "(II)Z"⟩, 27) := ⟨⟨by decide +kernel, by decide +kernel⟩, List.mem_of_getElem? (i := 502) (by decide +kernel), List.mem_of_getElem? (i := 637) (by decide +kernel), List.mem_of_getElem? (i := 638) (by decide +kernel)⟩
theorem lw_p29 : lw_okq (⟨"VotedFramesModel", "makesOfOne", "(III)I"⟩, 27) := ⟨⟨by decide +kernel, by decide +kernel⟩, List.mem_of_getElem? (i := 502) (by decide +kernel), List.mem_of_getElem? (i := 641) (by decide +kernel), List.mem_of_getElem? (i := 642) (by decide +kernel)⟩
theorem lw_p30 : lw_okq (⟨"VotedFramesModel", "holds", "(IIIII)I"⟩, 27) := ⟨⟨by decide +kernel, by decide +kernel⟩, List.mem_of_getElem? (i := 502) (by decide +kernel), List.mem_of_getElem? (i := 645) (by decide +kernel), List.mem_of_getElem? (i := 646) (by decide +kernel)⟩
theorem lw_p31 : lw_okq (⟨"VotedFramesModel", "sent", "(III)I"⟩, 27) := ⟨⟨by decide +kernel, by decide +kernel⟩, List.mem_of_getElem? (i := 502) (by decide +kernel), List.mem_of_getElem? (i := 649) (by decide +kernel), List.mem_of_getElem? (i := 650) (by decide +kernel)⟩
def lw_privs_2 : List (MethodName × Nat) := [(⟨"VotedFrames$StackMachine", "fetch", "(II[I[I)I"⟩, 2), (⟨"VotedFrames", "vote", "(LVotedFrames$Node;I)V"⟩, 12), (⟨"VotedFrames", "fillBallot", "(LVotedFrames$Node;)I"⟩, 12), (⟨"VotedFrames", "dissentersFrom", "(ILVotedFrames$Node;)I"⟩, 12), (⟨"VotedFrames", "agreeOnAccused", "()V"⟩, 12), (⟨"VotedFrames", "strikeOut", "()I"⟩, 12), (⟨"VotedFrames", "convictedBy", "(LVotedFrames$Node;)I"⟩, 12), (⟨"VotedFrames", "correctClocks", "()V"⟩, 12), (⟨"VotedFrames", "correctionFor", "(LVotedFrames$Node;)I"⟩, 12), (⟨"VotedFramesModel", "node", "(I)Z"⟩, 27), (⟨"VotedFramesModel", "one", "()V"⟩, 27), (⟨"VotedFramesModel", "agrees", "(III)I"⟩, 27), (⟨"VotedFramesModel", "member", "(II)Z"⟩, 27), (⟨"VotedFramesModel", "makesOfOne", "(III)I"⟩, 27), (⟨"VotedFramesModel", "holds", "(IIIII)I"⟩, 27), (⟨"VotedFramesModel", "sent", "(III)I"⟩, 27)]
theorem lw_r2 : ∀ q ∈ lw_privs_2, lw_okq q := List.forall_mem_cons.mpr ⟨lw_p16, List.forall_mem_cons.mpr ⟨lw_p17, List.forall_mem_cons.mpr ⟨lw_p18, List.forall_mem_cons.mpr ⟨lw_p19, List.forall_mem_cons.mpr ⟨lw_p20, List.forall_mem_cons.mpr ⟨lw_p21, List.forall_mem_cons.mpr ⟨lw_p22, List.forall_mem_cons.mpr ⟨lw_p23, List.forall_mem_cons.mpr ⟨lw_p24, List.forall_mem_cons.mpr ⟨lw_p25, List.forall_mem_cons.mpr ⟨lw_p26, List.forall_mem_cons.mpr ⟨lw_p27, List.forall_mem_cons.mpr ⟨lw_p28, List.forall_mem_cons.mpr ⟨lw_p29, List.forall_mem_cons.mpr ⟨lw_p30, List.forall_mem_cons.mpr ⟨lw_p31, fun _ h => absurd h List.not_mem_nil⟩⟩⟩⟩⟩⟩⟩⟩⟩⟩⟩⟩⟩⟩⟩⟩
theorem lw_p32 : lw_okq (⟨"VotedFramesModel", "through", "(II)Z"⟩, 27) := ⟨⟨by decide +kernel, by decide +kernel⟩, List.mem_of_getElem? (i := 502) (by decide +kernel), List.mem_of_getElem? (i := 653) (by decide +kernel), List.mem_of_getElem? (i := 654) (by decide +kernel)⟩
theorem lw_p33 : lw_okq (⟨"VotedFramesModel", "says", "(III)I"⟩, 27) := ⟨⟨by decide +kernel, by decide +kernel⟩, List.mem_of_getElem? (i := 502) (by decide +kernel), List.mem_of_getElem? (i := 657) (by decide +kernel), List.mem_of_getElem? (i := 658) (by decide +kernel)⟩
theorem lw_p34 : lw_okq (⟨"VotedFramesModel", "size", "(I)I"⟩, 27) := ⟨⟨by decide +kernel, by decide +kernel⟩, List.mem_of_getElem? (i := 502) (by decide +kernel), List.mem_of_getElem? (i := 665) (by decide +kernel), List.mem_of_getElem? (i := 666) (by decide +kernel)⟩
theorem lw_p35 : lw_okq (⟨"VotedFramesModel", "makesOfTwo", "(IIII)I"⟩, 27) := ⟨⟨by decide +kernel, by decide +kernel⟩, List.mem_of_getElem? (i := 502) (by decide +kernel), List.mem_of_getElem? (i := 669) (by decide +kernel), List.mem_of_getElem? (i := 670) (by decide +kernel)⟩
theorem lw_p36 : lw_okq (⟨"VotedFramesModel", "majority", "(II)I"⟩, 27) := ⟨⟨by decide +kernel, by decide +kernel⟩, List.mem_of_getElem? (i := 502) (by decide +kernel), List.mem_of_getElem? (i := 673) (by decide +kernel), List.mem_of_getElem? (i := 674) (by decide +kernel)⟩
theorem lw_p37 : lw_okq (⟨"VotedFramesModel", "tasks", "()V"⟩, 27) := ⟨⟨by decide +kernel, by decide +kernel⟩, List.mem_of_getElem? (i := 502) (by decide +kernel), List.mem_of_getElem? (i := 677) (by decide +kernel), List.mem_of_getElem? (i := 678) (by decide +kernel)⟩
theorem lw_p38 : lw_okq (⟨"VotedFramesModel", "isDue", "(I)Z"⟩, 27) := ⟨⟨by decide +kernel, by decide +kernel⟩, List.mem_of_getElem? (i := 502) (by decide +kernel), List.mem_of_getElem? (i := 681) (by decide +kernel), List.mem_of_getElem? (i := 682) (by decide +kernel)⟩
theorem lw_p39 : lw_okq (⟨"VotedFramesModel", "play", "(III)I"⟩, 27) := ⟨⟨by decide +kernel, by decide +kernel⟩, List.mem_of_getElem? (i := 502) (by decide +kernel), List.mem_of_getElem? (i := 685) (by decide +kernel), List.mem_of_getElem? (i := 686) (by decide +kernel)⟩
theorem lw_p40 : lw_okq (⟨"VotedFramesModel", "push", "(I)V"⟩, 27) := ⟨⟨by decide +kernel, by decide +kernel⟩, List.mem_of_getElem? (i := 502) (by decide +kernel), List.mem_of_getElem? (i := 698) (by decide +kernel), List.mem_of_getElem? (i := 699) (by decide +kernel)⟩
theorem lw_p41 : lw_okq (⟨"VotedFramesModel", "vote", "(II)V"⟩, 27) := ⟨⟨by decide +kernel, by decide +kernel⟩, List.mem_of_getElem? (i := 502) (by decide +kernel), List.mem_of_getElem? (i := 702) (by decide +kernel), List.mem_of_getElem? (i := 703) (by decide +kernel)⟩
theorem lw_p42 : lw_okq (⟨"VotedFramesModel", "strike", "(I)V"⟩, 27) := ⟨⟨by decide +kernel, by decide +kernel⟩, List.mem_of_getElem? (i := 502) (by decide +kernel), List.mem_of_getElem? (i := 706) (by decide +kernel), List.mem_of_getElem? (i := 707) (by decide +kernel)⟩
theorem lw_p43 : lw_okq (⟨"VotedFramesModel", "mean", "(I)I"⟩, 27) := ⟨⟨by decide +kernel, by decide +kernel⟩, List.mem_of_getElem? (i := 502) (by decide +kernel), List.mem_of_getElem? (i := 710) (by decide +kernel), List.mem_of_getElem? (i := 711) (by decide +kernel)⟩
theorem lw_p44 : lw_okq (⟨"VotedFramesModel", "shows", "(II)I"⟩, 27) := ⟨⟨by decide +kernel, by decide +kernel⟩, List.mem_of_getElem? (i := 502) (by decide +kernel), List.mem_of_getElem? (i := 714) (by decide +kernel), List.mem_of_getElem? (i := 715) (by decide +kernel)⟩
theorem lw_p45 : lw_okq (⟨"VotedFramesModel", "twins", "(II)Z"⟩, 27) := ⟨⟨by decide +kernel, by decide +kernel⟩, List.mem_of_getElem? (i := 502) (by decide +kernel), List.mem_of_getElem? (i := 759) (by decide +kernel), List.mem_of_getElem? (i := 760) (by decide +kernel)⟩
def lw_privs_3 : List (MethodName × Nat) := [(⟨"VotedFramesModel", "through", "(II)Z"⟩, 27), (⟨"VotedFramesModel", "says", "(III)I"⟩, 27), (⟨"VotedFramesModel", "size", "(I)I"⟩, 27), (⟨"VotedFramesModel", "makesOfTwo", "(IIII)I"⟩, 27), (⟨"VotedFramesModel", "majority", "(II)I"⟩, 27), (⟨"VotedFramesModel", "tasks", "()V"⟩, 27), (⟨"VotedFramesModel", "isDue", "(I)Z"⟩, 27), (⟨"VotedFramesModel", "play", "(III)I"⟩, 27), (⟨"VotedFramesModel", "push", "(I)V"⟩, 27), (⟨"VotedFramesModel", "vote", "(II)V"⟩, 27), (⟨"VotedFramesModel", "strike", "(I)V"⟩, 27), (⟨"VotedFramesModel", "mean", "(I)I"⟩, 27), (⟨"VotedFramesModel", "shows", "(II)I"⟩, 27), (⟨"VotedFramesModel", "twins", "(II)Z"⟩, 27)]
theorem lw_r3 : ∀ q ∈ lw_privs_3, lw_okq q := List.forall_mem_cons.mpr ⟨lw_p32, List.forall_mem_cons.mpr ⟨lw_p33, List.forall_mem_cons.mpr ⟨lw_p34, List.forall_mem_cons.mpr ⟨lw_p35, List.forall_mem_cons.mpr ⟨lw_p36, List.forall_mem_cons.mpr ⟨lw_p37, List.forall_mem_cons.mpr ⟨lw_p38, List.forall_mem_cons.mpr ⟨lw_p39, List.forall_mem_cons.mpr ⟨lw_p40, List.forall_mem_cons.mpr ⟨lw_p41, List.forall_mem_cons.mpr ⟨lw_p42, List.forall_mem_cons.mpr ⟨lw_p43, List.forall_mem_cons.mpr ⟨lw_p44, List.forall_mem_cons.mpr ⟨lw_p45, fun _ h => absurd h List.not_mem_nil⟩⟩⟩⟩⟩⟩⟩⟩⟩⟩⟩⟩⟩⟩
def lw_privs : List (MethodName × Nat) := lw_privs_1 ++ (lw_privs_2 ++ (lw_privs_3))
def lw_tbl : List Cond := k2_sels lw_privs ++ tables_1
theorem lw_privs_ok : ∀ q ∈ lw_privs, lw_okq q := by
  show ∀ q ∈ lw_privs_1 ++ (lw_privs_2 ++ (lw_privs_3)), lw_okq q
  exact List.forall_mem_append.mpr ⟨lw_r1, List.forall_mem_append.mpr ⟨lw_r2, lw_r3⟩⟩
def qa_T : List Cond := lw_tbl.filter (fun w => k2_isCode w || goodWord w)
theorem qa_m0 {w : Cond} (i : Nat) (h : (k2_sels lw_privs)[i]? = some w) (hg : (k2_isCode w || goodWord w) = true) : w ∈ qa_T := List.mem_filter.mpr ⟨List.mem_append_left _ (List.mem_of_getElem? h), hg⟩
theorem qa_m1 {w : Cond} (i : Nat) (h : tables_1_1[i]? = some w) (hg : (k2_isCode w || goodWord w) = true) : w ∈ qa_T := List.mem_filter.mpr ⟨List.mem_append_right _ (show w ∈ tables_1 from List.mem_append_left _ (List.mem_of_getElem? h)), hg⟩
theorem qa_m2 {w : Cond} (i : Nat) (h : tables_1_2[i]? = some w) (hg : (k2_isCode w || goodWord w) = true) : w ∈ qa_T := List.mem_filter.mpr ⟨List.mem_append_right _ (show w ∈ tables_1 from List.mem_append_right _ (List.mem_append_left _ (List.mem_of_getElem? h))), hg⟩
theorem qa_m3 {w : Cond} (i : Nat) (h : tables_1_3[i]? = some w) (hg : (k2_isCode w || goodWord w) = true) : w ∈ qa_T := List.mem_filter.mpr ⟨List.mem_append_right _ (show w ∈ tables_1 from List.mem_append_right _ (List.mem_append_right _ (List.mem_append_left _ (List.mem_of_getElem? h)))), hg⟩
theorem qa_m4 {w : Cond} (i : Nat) (h : tables_1_4[i]? = some w) (hg : (k2_isCode w || goodWord w) = true) : w ∈ qa_T := List.mem_filter.mpr ⟨List.mem_append_right _ (show w ∈ tables_1 from List.mem_append_right _ (List.mem_append_right _ (List.mem_append_right _ (List.mem_of_getElem? h)))), hg⟩
def qa_Nw : List Cond := [.methodLinkNest "VotedFrames" 171 ⟨"VotedFrames$Task", "<init>", "()V"⟩ "VotedFrames", .methodLinkNest "VotedFrames" 54 ⟨"VotedFrames$StackMachine", "<init>", "()V"⟩ "VotedFrames", .methodLinkNest "VotedFrames$Node" 53 ⟨"VotedFrames", "contains", "(II)Z"⟩ "VotedFrames", .methodLinkNest "VotedFrames$Node" 60 ⟨"VotedFrames", "isAtMost", "(II)Z"⟩ "VotedFrames", .methodLinkNest "VotedFrames$Relay" 57 ⟨"VotedFrames", "contains", "(II)Z"⟩ "VotedFrames", .methodLinkNest "VotedFrames$Relay" 86 ⟨"VotedFrames", "majorityPlace", "([III)I"⟩ "VotedFrames"]
theorem qa_Nw_tabs : ∀ w ∈ qa_Nw, w.onTables = true := by
  intro w hw
  simp only [qa_Nw, List.mem_cons, List.not_mem_nil, or_false] at hw
  rcases hw with rfl | rfl | rfl | rfl | rfl | rfl <;> rfl
theorem qa_Nw_moved {s U : State} (hW : s.WarmedH U.vm) : ∀ w ∈ qa_Nw, va_Nw w s → va_Nw w U := by
  intro w hw h
  simp only [qa_Nw, List.mem_cons, List.not_mem_nil, or_false] at hw
  rcases hw with rfl | rfl | rfl | rfl | rfl | rfl <;> exact va_Nw.warmM hW h
theorem qa_Nw_in : ∀ w ∈ qa_Nw, w ∈ lw_tbl := by
  intro w hw
  simp only [qa_Nw, List.mem_cons, List.not_mem_nil, or_false] at hw
  rcases hw with rfl | rfl | rfl | rfl | rfl | rfl
  · exact List.mem_append_right _ (show _ ∈ tables_1 from List.mem_append_left _ (List.mem_of_getElem? (i := 138) (by decide +kernel)))
  · exact List.mem_append_right _ (show _ ∈ tables_1 from List.mem_append_left _ (List.mem_of_getElem? (i := 165) (by decide +kernel)))
  · exact List.mem_append_right _ (show _ ∈ tables_1 from List.mem_append_right _ (List.mem_append_left _ (List.mem_of_getElem? (i := 39) (by decide +kernel))))
  · exact List.mem_append_right _ (show _ ∈ tables_1 from List.mem_append_right _ (List.mem_append_left _ (List.mem_of_getElem? (i := 42) (by decide +kernel))))
  · exact List.mem_append_right _ (show _ ∈ tables_1 from List.mem_append_right _ (List.mem_append_left _ (List.mem_of_getElem? (i := 75) (by decide +kernel))))
  · exact List.mem_append_right _ (show _ ∈ tables_1 from List.mem_append_right _ (List.mem_append_left _ (List.mem_of_getElem? (i := 100) (by decide +kernel))))
def R_VF : String := "VotedFrames"
def F_VF : u_T := fun k => match k with
  | 0 => ("VotedFrames", "nodeCount", "I", true)
  | 1 => ("VotedFrames", "faultsBorne", "I", true)
  | 2 => ("VotedFrames", "delta", "I", true)
  | 3 => ("VotedFrames", "nodes", "[LVotedFrames$Node;", true)
  | 4 => ("VotedFrames", "relay", "LVotedFrames$Relay;", true)
  | 5 => ("VotedFrames", "tasks", "[LVotedFrames$Task;", true)
  | 6 => ("VotedFrames", "stackMachine", "LVotedFrames$StackMachine;", true)
  | 7 => ("VotedFrames", "singleWords", "[I", true)
  | 8 => ("VotedFrames", "noInputs", "[I", true)
  | 9 => ("VotedFrames", "results", "[I", true)
  | 10 => ("VotedFrames", "ballot", "[I", true)
  | _ => ("VotedFrames", "framesRun", "I", false)
def t_VF : Nat → FieldType := fun k => match k with
  | 0 => .int
  | 1 => .int
  | 2 => .int
  | 3 => .array (.object "VotedFrames$Node")
  | 4 => .object "VotedFrames$Relay"
  | 5 => .array (.object "VotedFrames$Task")
  | 6 => .object "VotedFrames$StackMachine"
  | 7 => .array .int
  | 8 => .array .int
  | 9 => .array .int
  | 10 => .array .int
  | _ => .int
theorem n_VF : ∀ a, a < 12 → ∀ b, b < 12 → a ≠ b → (F_VF a).2.1 ≠ (F_VF b).2.1 := by decide +kernel
theorem t_VF_ok : ∀ k, k < 12 → parseFieldDescriptor (F_VF k).2.2.1 = some (t_VF k) := by decide +kernel
theorem in_VF : ∀ w ∈ u_ws R_VF F_VF 12, w ∈ qa_T := by
  intro w hw
  obtain ⟨k, hk, rfl⟩ := List.mem_map.mp hw
  have hk := List.mem_range.mp hk
  rcases (show k = 0 ∨ k = 1 ∨ k = 2 ∨ k = 3 ∨ k = 4 ∨ k = 5 ∨ k = 6 ∨ k = 7 ∨ k = 8 ∨ k = 9 ∨ k = 10 ∨ k = 11 by omega) with rfl | rfl | rfl | rfl | rfl | rfl | rfl | rfl | rfl | rfl | rfl | rfl
  · exact qa_m1 188 (by decide +kernel) rfl
  · exact qa_m1 190 (by decide +kernel) rfl
  · exact qa_m1 192 (by decide +kernel) rfl
  · exact qa_m1 194 (by decide +kernel) rfl
  · exact qa_m1 196 (by decide +kernel) rfl
  · exact qa_m1 198 (by decide +kernel) rfl
  · exact qa_m1 200 (by decide +kernel) rfl
  · exact qa_m1 202 (by decide +kernel) rfl
  · exact qa_m1 204 (by decide +kernel) rfl
  · exact qa_m1 206 (by decide +kernel) rfl
  · exact qa_m1 208 (by decide +kernel) rfl
  · exact qa_m1 210 (by decide +kernel) rfl
def R_ND : String := "VotedFrames$Node"
def F_ND : u_T := fun k => match k with
  | 0 => ("VotedFrames$Node", "number", "I", true)
  | 1 => ("VotedFrames$Node", "delayFrom", "[I", true)
  | 2 => ("VotedFrames$Node", "errorFrom", "[I", true)
  | 3 => ("VotedFrames$Node", "inputs", "[I", true)
  | 4 => ("VotedFrames$Node", "charges", "[I", true)
  | 5 => ("VotedFrames$Node", "words", "[I", true)
  | 6 => ("VotedFrames$Node", "time", "I", false)
  | 7 => ("VotedFrames$Node", "drift", "I", false)
  | 8 => ("VotedFrames$Node", "sensed", "I", false)
  | 9 => ("VotedFrames$Node", "kind", "I", false)
  | 10 => ("VotedFrames$Node", "x", "I", false)
  | 11 => ("VotedFrames$Node", "memberSet", "I", false)
  | 12 => ("VotedFrames$Node", "heardSet", "I", false)
  | 13 => ("VotedFrames$Node", "accusedSet", "I", false)
  | _ => ("VotedFrames$Node", "latestCorrection", "I", false)
def t_ND : Nat → FieldType := fun k => match k with
  | 0 => .int
  | 1 => .array .int
  | 2 => .array .int
  | 3 => .array .int
  | 4 => .array .int
  | 5 => .array .int
  | 6 => .int
  | 7 => .int
  | 8 => .int
  | 9 => .int
  | 10 => .int
  | 11 => .int
  | 12 => .int
  | 13 => .int
  | _ => .int
theorem n_ND : ∀ a, a < 15 → ∀ b, b < 15 → a ≠ b → (F_ND a).2.1 ≠ (F_ND b).2.1 := by decide +kernel
theorem t_ND_ok : ∀ k, k < 15 → parseFieldDescriptor (F_ND k).2.2.1 = some (t_ND k) := by decide +kernel
theorem in_ND : ∀ w ∈ u_ws R_ND F_ND 15, w ∈ qa_T := by
  intro w hw
  obtain ⟨k, hk, rfl⟩ := List.mem_map.mp hw
  have hk := List.mem_range.mp hk
  rcases (show k = 0 ∨ k = 1 ∨ k = 2 ∨ k = 3 ∨ k = 4 ∨ k = 5 ∨ k = 6 ∨ k = 7 ∨ k = 8 ∨ k = 9 ∨ k = 10 ∨ k = 11 ∨ k = 12 ∨ k = 13 ∨ k = 14 by omega) with rfl | rfl | rfl | rfl | rfl | rfl | rfl | rfl | rfl | rfl | rfl | rfl | rfl | rfl | rfl
  · exact qa_m1 67 (by decide +kernel) rfl
  · exact qa_m1 69 (by decide +kernel) rfl
  · exact qa_m1 71 (by decide +kernel) rfl
  · exact qa_m1 73 (by decide +kernel) rfl
  · exact qa_m1 75 (by decide +kernel) rfl
  · exact qa_m1 77 (by decide +kernel) rfl
  · exact qa_m1 79 (by decide +kernel) rfl
  · exact qa_m1 81 (by decide +kernel) rfl
  · exact qa_m1 83 (by decide +kernel) rfl
  · exact qa_m1 85 (by decide +kernel) rfl
  · exact qa_m1 87 (by decide +kernel) rfl
  · exact qa_m1 89 (by decide +kernel) rfl
  · exact qa_m1 91 (by decide +kernel) rfl
  · exact qa_m1 93 (by decide +kernel) rfl
  · exact qa_m1 95 (by decide +kernel) rfl
def R_RL : String := "VotedFrames$Relay"
def F_RL : u_T := fun k => match k with
  | 0 => ("VotedFrames$Relay", "nodes", "[LVotedFrames$Node;", true)
  | 1 => ("VotedFrames$Relay", "faults", "I", true)
  | 2 => ("VotedFrames$Relay", "held", "[I", true)
  | 3 => ("VotedFrames$Relay", "lists", "[[I", true)
  | 4 => ("VotedFrames$Relay", "source", "I", false)
  | 5 => ("VotedFrames$Relay", "value", "I", false)
  | 6 => ("VotedFrames$Relay", "frameNumber", "I", false)
  | _ => ("VotedFrames$Relay", "rounds", "I", false)
def t_RL : Nat → FieldType := fun k => match k with
  | 0 => .array (.object "VotedFrames$Node")
  | 1 => .int
  | 2 => .array .int
  | 3 => .array (.array .int)
  | 4 => .int
  | 5 => .int
  | 6 => .int
  | _ => .int
theorem n_RL : ∀ a, a < 8 → ∀ b, b < 8 → a ≠ b → (F_RL a).2.1 ≠ (F_RL b).2.1 := by decide +kernel
theorem t_RL_ok : ∀ k, k < 8 → parseFieldDescriptor (F_RL k).2.2.1 = some (t_RL k) := by decide +kernel
theorem in_RL : ∀ w ∈ u_ws R_RL F_RL 8, w ∈ qa_T := by
  intro w hw
  obtain ⟨k, hk, rfl⟩ := List.mem_map.mp hw
  have hk := List.mem_range.mp hk
  rcases (show k = 0 ∨ k = 1 ∨ k = 2 ∨ k = 3 ∨ k = 4 ∨ k = 5 ∨ k = 6 ∨ k = 7 by omega) with rfl | rfl | rfl | rfl | rfl | rfl | rfl | rfl
  · exact qa_m1 115 (by decide +kernel) rfl
  · exact qa_m1 117 (by decide +kernel) rfl
  · exact qa_m1 119 (by decide +kernel) rfl
  · exact qa_m1 121 (by decide +kernel) rfl
  · exact qa_m1 123 (by decide +kernel) rfl
  · exact qa_m1 125 (by decide +kernel) rfl
  · exact qa_m1 127 (by decide +kernel) rfl
  · exact qa_m1 129 (by decide +kernel) rfl
def R_TK : String := "VotedFrames$Task"
def F_TK : u_T := fun k => match k with
  | 0 => ("VotedFrames$Task", "ops", "[I", true)
  | 1 => ("VotedFrames$Task", "numbers", "[I", true)
  | 2 => ("VotedFrames$Task", "length", "I", false)
  | 3 => ("VotedFrames$Task", "period", "I", false)
  | _ => ("VotedFrames$Task", "phase", "I", false)
def t_TK : Nat → FieldType := fun k => match k with
  | 0 => .array .int
  | 1 => .array .int
  | 2 => .int
  | 3 => .int
  | _ => .int
theorem n_TK : ∀ a, a < 5 → ∀ b, b < 5 → a ≠ b → (F_TK a).2.1 ≠ (F_TK b).2.1 := by decide +kernel
theorem t_TK_ok : ∀ k, k < 5 → parseFieldDescriptor (F_TK k).2.2.1 = some (t_TK k) := by decide +kernel
theorem in_TK : ∀ w ∈ u_ws R_TK F_TK 5, w ∈ qa_T := by
  intro w hw
  obtain ⟨k, hk, rfl⟩ := List.mem_map.mp hw
  have hk := List.mem_range.mp hk
  rcases (show k = 0 ∨ k = 1 ∨ k = 2 ∨ k = 3 ∨ k = 4 by omega) with rfl | rfl | rfl | rfl | rfl
  · exact qa_m1 152 (by decide +kernel) rfl
  · exact qa_m1 154 (by decide +kernel) rfl
  · exact qa_m1 156 (by decide +kernel) rfl
  · exact qa_m1 158 (by decide +kernel) rfl
  · exact qa_m1 160 (by decide +kernel) rfl
def R_SM : String := "VotedFrames$StackMachine"
def F_SM : u_T := fun k => match k with
  | 0 => ("VotedFrames$StackMachine", "stack", "[I", true)
  | _ => ("VotedFrames$StackMachine", "depth", "I", false)
def t_SM : Nat → FieldType := fun k => match k with
  | 0 => .array .int
  | _ => .int
theorem n_SM : ∀ a, a < 2 → ∀ b, b < 2 → a ≠ b → (F_SM a).2.1 ≠ (F_SM b).2.1 := by decide +kernel
theorem t_SM_ok : ∀ k, k < 2 → parseFieldDescriptor (F_SM k).2.2.1 = some (t_SM k) := by decide +kernel
theorem in_SM : ∀ w ∈ u_ws R_SM F_SM 2, w ∈ qa_T := by
  intro w hw
  obtain ⟨k, hk, rfl⟩ := List.mem_map.mp hw
  have hk := List.mem_range.mp hk
  rcases (show k = 0 ∨ k = 1 by omega) with rfl | rfl
  · exact qa_m1 171 (by decide +kernel) rfl
  · exact qa_m1 173 (by decide +kernel) rfl
def R_MD : String := "VotedFramesModel"
def F_MD : u_T := fun k => match k with
  | 0 => ("VotedFramesModel", "n", "I", false)
  | 1 => ("VotedFramesModel", "m", "I", false)
  | 2 => ("VotedFramesModel", "delta", "I", false)
  | 3 => ("VotedFramesModel", "frames", "I", false)
  | 4 => ("VotedFramesModel", "strikes", "I", false)
  | 5 => ("VotedFramesModel", "clock", "[I", true)
  | 6 => ("VotedFramesModel", "drift", "[I", true)
  | 7 => ("VotedFramesModel", "sensor", "[I", true)
  | 8 => ("VotedFramesModel", "kind", "[I", true)
  | 9 => ("VotedFramesModel", "extra", "[I", true)
  | 10 => ("VotedFramesModel", "mask", "[I", true)
  | 11 => ("VotedFramesModel", "blamed", "[I", true)
  | 12 => ("VotedFramesModel", "shift", "[I", true)
  | 13 => ("VotedFramesModel", "result", "[I", true)
  | 14 => ("VotedFramesModel", "words", "[I", true)
  | 15 => ("VotedFramesModel", "inputs", "[I", true)
  | 16 => ("VotedFramesModel", "charges", "[I", true)
  | 17 => ("VotedFramesModel", "delays", "[I", true)
  | 18 => ("VotedFramesModel", "errors", "[I", true)
  | 19 => ("VotedFramesModel", "ops", "[I", true)
  | 20 => ("VotedFramesModel", "args", "[I", true)
  | 21 => ("VotedFramesModel", "sizes", "[I", true)
  | 22 => ("VotedFramesModel", "periods", "[I", true)
  | 23 => ("VotedFramesModel", "phases", "[I", true)
  | 24 => ("VotedFramesModel", "stack", "[I", true)
  | 25 => ("VotedFramesModel", "depth", "I", false)
  | _ => ("VotedFramesModel", "list", "[I", true)
def t_MD : Nat → FieldType := fun k => match k with
  | 0 => .int
  | 1 => .int
  | 2 => .int
  | 3 => .int
  | 4 => .int
  | 5 => .array .int
  | 6 => .array .int
  | 7 => .array .int
  | 8 => .array .int
  | 9 => .array .int
  | 10 => .array .int
  | 11 => .array .int
  | 12 => .array .int
  | 13 => .array .int
  | 14 => .array .int
  | 15 => .array .int
  | 16 => .array .int
  | 17 => .array .int
  | 18 => .array .int
  | 19 => .array .int
  | 20 => .array .int
  | 21 => .array .int
  | 22 => .array .int
  | 23 => .array .int
  | 24 => .array .int
  | 25 => .int
  | _ => .array .int
theorem n_MD : ∀ a, a < 27 → ∀ b, b < 27 → a ≠ b → (F_MD a).2.1 ≠ (F_MD b).2.1 := by decide +kernel
theorem t_MD_ok : ∀ k, k < 27 → parseFieldDescriptor (F_MD k).2.2.1 = some (t_MD k) := by decide +kernel
theorem in_MD : ∀ w ∈ u_ws R_MD F_MD 27, w ∈ qa_T := by
  intro w hw
  obtain ⟨k, hk, rfl⟩ := List.mem_map.mp hw
  have hk := List.mem_range.mp hk
  rcases (show k = 0 ∨ k = 1 ∨ k = 2 ∨ k = 3 ∨ k = 4 ∨ k = 5 ∨ k = 6 ∨ k = 7 ∨ k = 8 ∨ k = 9 ∨ k = 10 ∨ k = 11 ∨ k = 12 ∨ k = 13 ∨ k = 14 ∨ k = 15 ∨ k = 16 ∨ k = 17 ∨ k = 18 ∨ k = 19 ∨ k = 20 ∨ k = 21 ∨ k = 22 ∨ k = 23 ∨ k = 24 ∨ k = 25 ∨ k = 26 by omega) with rfl | rfl | rfl | rfl | rfl | rfl | rfl | rfl | rfl | rfl | rfl | rfl | rfl | rfl | rfl | rfl | rfl | rfl | rfl | rfl | rfl | rfl | rfl | rfl | rfl | rfl | rfl
  · exact qa_m3 54 (by decide +kernel) rfl
  · exact qa_m3 56 (by decide +kernel) rfl
  · exact qa_m3 58 (by decide +kernel) rfl
  · exact qa_m3 60 (by decide +kernel) rfl
  · exact qa_m3 62 (by decide +kernel) rfl
  · exact qa_m3 64 (by decide +kernel) rfl
  · exact qa_m3 66 (by decide +kernel) rfl
  · exact qa_m3 68 (by decide +kernel) rfl
  · exact qa_m3 70 (by decide +kernel) rfl
  · exact qa_m3 72 (by decide +kernel) rfl
  · exact qa_m3 74 (by decide +kernel) rfl
  · exact qa_m3 76 (by decide +kernel) rfl
  · exact qa_m3 78 (by decide +kernel) rfl
  · exact qa_m3 80 (by decide +kernel) rfl
  · exact qa_m3 82 (by decide +kernel) rfl
  · exact qa_m3 84 (by decide +kernel) rfl
  · exact qa_m3 86 (by decide +kernel) rfl
  · exact qa_m3 88 (by decide +kernel) rfl
  · exact qa_m3 90 (by decide +kernel) rfl
  · exact qa_m3 92 (by decide +kernel) rfl
  · exact qa_m3 94 (by decide +kernel) rfl
  · exact qa_m3 96 (by decide +kernel) rfl
  · exact qa_m3 98 (by decide +kernel) rfl
  · exact qa_m3 100 (by decide +kernel) rfl
  · exact qa_m3 102 (by decide +kernel) rfl
  · exact qa_m3 104 (by decide +kernel) rfl
  · exact qa_m3 106 (by decide +kernel) rfl
abbrev qa_Cl : List vw_C := [(R_VF, F_VF, 12), (R_ND, F_ND, 15), (R_RL, F_RL, 8), (R_TK, F_TK, 5), (R_SM, F_SM, 2), (R_MD, F_MD, 27)]
theorem qa_in {C : String} {T : u_T} {N : Nat} (ci : Nat) (hc : qa_Cl[ci]? = some (C, T, N)) : ∀ w ∈ u_ws C T N, w ∈ qa_T := by
  have hlt : ci < 6 := (List.getElem?_eq_some_iff.mp hc).1
  rcases (show ci = 0 ∨ ci = 1 ∨ ci = 2 ∨ ci = 3 ∨ ci = 4 ∨ ci = 5 by omega) with rfl | rfl | rfl | rfl | rfl | rfl
  · cases hc; exact in_VF
  · cases hc; exact in_ND
  · cases hc; exact in_RL
  · cases hc; exact in_TK
  · cases hc; exact in_SM
  · cases hc; exact in_MD
theorem qa_tn {C : String} {T : u_T} {N : Nat} (ci : Nat) (hc : qa_Cl[ci]? = some (C, T, N)) : ∃ ty : Nat → FieldType, (∀ k, k < N → parseFieldDescriptor (T k).2.2.1 = some (ty k)) ∧ (∀ a, a < N → ∀ b, b < N → a ≠ b → (T a).2.1 ≠ (T b).2.1) := by
  have hlt : ci < 6 := (List.getElem?_eq_some_iff.mp hc).1
  rcases (show ci = 0 ∨ ci = 1 ∨ ci = 2 ∨ ci = 3 ∨ ci = 4 ∨ ci = 5 by omega) with rfl | rfl | rfl | rfl | rfl | rfl
  · cases hc; exact ⟨t_VF, t_VF_ok, n_VF⟩
  · cases hc; exact ⟨t_ND, t_ND_ok, n_ND⟩
  · cases hc; exact ⟨t_RL, t_RL_ok, n_RL⟩
  · cases hc; exact ⟨t_TK, t_TK_ok, n_TK⟩
  · cases hc; exact ⟨t_SM, t_SM_ok, n_SM⟩
  · cases hc; exact ⟨t_MD, t_MD_ok, n_MD⟩
