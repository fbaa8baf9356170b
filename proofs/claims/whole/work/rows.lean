section
/-! began as PART A of the skeleton and the printed names -/
/-- a private method of a class that the tables say can be made, by its rows of tables_1 -/
def lw_okq (q : MethodName × Nat) : Prop := (q.1.cls ≠ "java/lang/invoke/MethodHandle" ∧ q.1.cls ≠ "java/lang/invoke/VarHandle") ∧ Cond.instantiable q.1.cls q.2 ∈ tables_1 ∧ Cond.privateMethod q.1 ∈ tables_1 ∧ Cond.instanceMethod q.1 ∈ tables_1
theorem lw_p0 : lw_okq (⟨"MarkedSteps$Machine", "isWalked", "()Z"⟩, 16) := ⟨⟨by decide +kernel, by decide +kernel⟩, List.mem_of_getElem? (i := 24) (by decide +kernel), List.mem_of_getElem? (i := 286) (by decide +kernel), List.mem_of_getElem? (i := 287) (by decide +kernel)⟩
theorem lw_p1 : lw_okq (⟨"MarkedSteps$Machine", "lacksMember", "(I)Z"⟩, 16) := ⟨⟨by decide +kernel, by decide +kernel⟩, List.mem_of_getElem? (i := 24) (by decide +kernel), List.mem_of_getElem? (i := 294) (by decide +kernel), List.mem_of_getElem? (i := 295) (by decide +kernel)⟩
theorem lw_p2 : lw_okq (⟨"MarkedSteps$Member", "addAct", "(IIII)I"⟩, 12) := ⟨⟨by decide +kernel, by decide +kernel⟩, List.mem_of_getElem? (i := 95) (by decide +kernel), List.mem_of_getElem? (i := 308) (by decide +kernel), List.mem_of_getElem? (i := 309) (by decide +kernel)⟩
theorem lw_p3 : lw_okq (⟨"MarkedSteps$Member", "addHandler", "(IIII)I"⟩, 12) := ⟨⟨by decide +kernel, by decide +kernel⟩, List.mem_of_getElem? (i := 95) (by decide +kernel), List.mem_of_getElem? (i := 316) (by decide +kernel), List.mem_of_getElem? (i := 317) (by decide +kernel)⟩
theorem lw_p4 : lw_okq (⟨"MarkedSteps$Verifier", "leastActThatLooksAtUnset", "(LMarkedSteps$Machine;LMarkedSteps$Member;)I"⟩, 1) := ⟨⟨by decide +kernel, by decide +kernel⟩, List.mem_of_getElem? (i := 257) (by decide +kernel), List.mem_of_getElem? (i := 332) (by decide +kernel), List.mem_of_getElem? (i := 333) (by decide +kernel)⟩
theorem lw_p5 : lw_okq (⟨"MarkedSteps$Verifier", "comeTo", "(LMarkedSteps$Member;II)Z"⟩, 1) := ⟨⟨by decide +kernel, by decide +kernel⟩, List.mem_of_getElem? (i := 257) (by decide +kernel), List.mem_of_getElem? (i := 336) (by decide +kernel), List.mem_of_getElem? (i := 337) (by decide +kernel)⟩
theorem lw_p6 : lw_okq (⟨"MarkedSteps$Verifier", "passOver", "(LMarkedSteps$Member;)Z"⟩, 1) := ⟨⟨by decide +kernel, by decide +kernel⟩, List.mem_of_getElem? (i := 257) (by decide +kernel), List.mem_of_getElem? (i := 340) (by decide +kernel), List.mem_of_getElem? (i := 341) (by decide +kernel)⟩
theorem lw_p7 : lw_okq (⟨"MarkedSteps$Verifier", "goOn", "(LMarkedSteps$Member;I)Z"⟩, 1) := ⟨⟨by decide +kernel, by decide +kernel⟩, List.mem_of_getElem? (i := 257) (by decide +kernel), List.mem_of_getElem? (i := 344) (by decide +kernel), List.mem_of_getElem? (i := 345) (by decide +kernel)⟩
theorem lw_p8 : lw_okq (⟨"MarkedSteps$Verifier", "goToHandlers", "(LMarkedSteps$Member;I)Z"⟩, 1) := ⟨⟨by decide +kernel, by decide +kernel⟩, List.mem_of_getElem? (i := 257) (by decide +kernel), List.mem_of_getElem? (i := 349) (by decide +kernel), List.mem_of_getElem? (i := 350) (by decide +kernel)⟩
theorem lw_p9 : lw_okq (⟨"MarkedSteps$Member", "handlerHas", "(II)Z"⟩, 12) := ⟨⟨by decide +kernel, by decide +kernel⟩, List.mem_of_getElem? (i := 95) (by decide +kernel), List.mem_of_getElem? (i := 353) (by decide +kernel), List.mem_of_getElem? (i := 354) (by decide +kernel)⟩
theorem lw_p10 : lw_okq (⟨"MarkedSteps$Slot", "becomeNothing", "()V"⟩, 4) := ⟨⟨by decide +kernel, by decide +kernel⟩, List.mem_of_getElem? (i := 68) (by decide +kernel), List.mem_of_getElem? (i := 381) (by decide +kernel), List.mem_of_getElem? (i := 382) (by decide +kernel)⟩
theorem lw_p11 : lw_okq (⟨"MarkedSteps$Slot", "becomeNumber", "(I)V"⟩, 4) := ⟨⟨by decide +kernel, by decide +kernel⟩, List.mem_of_getElem? (i := 68) (by decide +kernel), List.mem_of_getElem? (i := 385) (by decide +kernel), List.mem_of_getElem? (i := 386) (by decide +kernel)⟩
theorem lw_p12 : lw_okq (⟨"MarkedSteps$Slot", "copy", "(LMarkedSteps$Slot;)V"⟩, 4) := ⟨⟨by decide +kernel, by decide +kernel⟩, List.mem_of_getElem? (i := 68) (by decide +kernel), List.mem_of_getElem? (i := 390) (by decide +kernel), List.mem_of_getElem? (i := 391) (by decide +kernel)⟩
theorem lw_p13 : lw_okq (⟨"MarkedSteps", "refusalToBegin", "(II)I"⟩, 3) := ⟨⟨by decide +kernel, by decide +kernel⟩, List.mem_of_getElem? (i := 16) (by decide +kernel), List.mem_of_getElem? (i := 398) (by decide +kernel), List.mem_of_getElem? (i := 399) (by decide +kernel)⟩
theorem lw_p14 : lw_okq (⟨"MarkedSteps$Machine", "begin", "(II[LMarkedSteps$Slot;)I"⟩, 16) := ⟨⟨by decide +kernel, by decide +kernel⟩, List.mem_of_getElem? (i := 24) (by decide +kernel), List.mem_of_getElem? (i := 402) (by decide +kernel), List.mem_of_getElem? (i := 403) (by decide +kernel)⟩
theorem lw_p15 : lw_okq (⟨"MarkedSteps$Purse", "open", "(I)V"⟩, 4) := ⟨⟨by decide +kernel, by decide +kernel⟩, List.mem_of_getElem? (i := 32) (by decide +kernel), List.mem_of_getElem? (i := 406) (by decide +kernel), List.mem_of_getElem? (i := 407) (by decide +kernel)⟩
def lw_privs_1 : List (MethodName × Nat) := [(⟨"MarkedSteps$Machine", "isWalked", "()Z"⟩, 16), (⟨"MarkedSteps$Machine", "lacksMember", "(I)Z"⟩, 16), (⟨"MarkedSteps$Member", "addAct", "(IIII)I"⟩, 12), (⟨"MarkedSteps$Member", "addHandler", "(IIII)I"⟩, 12), (⟨"MarkedSteps$Verifier", "leastActThatLooksAtUnset", "(LMarkedSteps$Machine;LMarkedSteps$Member;)I"⟩, 1), (⟨"MarkedSteps$Verifier", "comeTo", "(LMarkedSteps$Member;II)Z"⟩, 1), (⟨"MarkedSteps$Verifier", "passOver", "(LMarkedSteps$Member;)Z"⟩, 1), (⟨"MarkedSteps$Verifier", "goOn", "(LMarkedSteps$Member;I)Z"⟩, 1), (⟨"MarkedSteps$Verifier", "goToHandlers", "(LMarkedSteps$Member;I)Z"⟩, 1), (⟨"MarkedSteps$Member", "handlerHas", "(II)Z"⟩, 12), (⟨"MarkedSteps$Slot", "becomeNothing", "()V"⟩, 4), (⟨"MarkedSteps$Slot", "becomeNumber", "(I)V"⟩, 4), (⟨"MarkedSteps$Slot", "copy", "(LMarkedSteps$Slot;)V"⟩, 4), (⟨"MarkedSteps", "refusalToBegin", "(II)I"⟩, 3), (⟨"MarkedSteps$Machine", "begin", "(II[LMarkedSteps$Slot;)I"⟩, 16), (⟨"MarkedSteps$Purse", "open", "(I)V"⟩, 4)]
theorem lw_r1 : ∀ q ∈ lw_privs_1, lw_okq q := List.forall_mem_cons.mpr ⟨lw_p0, List.forall_mem_cons.mpr ⟨lw_p1, List.forall_mem_cons.mpr ⟨lw_p2, List.forall_mem_cons.mpr ⟨lw_p3, List.forall_mem_cons.mpr ⟨lw_p4, List.forall_mem_cons.mpr ⟨lw_p5, List.forall_mem_cons.mpr ⟨lw_p6, List.forall_mem_cons.mpr ⟨lw_p7, List.forall_mem_cons.mpr ⟨lw_p8, List.forall_mem_cons.mpr ⟨lw_p9, List.forall_mem_cons.mpr ⟨lw_p10, List.forall_mem_cons.mpr ⟨lw_p11, List.forall_mem_cons.mpr ⟨lw_p12, List.forall_mem_cons.mpr ⟨lw_p13, List.forall_mem_cons.mpr ⟨lw_p14, List.forall_mem_cons.mpr ⟨lw_p15, fun _ h => absurd h List.not_mem_nil⟩⟩⟩⟩⟩⟩⟩⟩⟩⟩⟩⟩⟩⟩⟩⟩
theorem lw_p16 : lw_okq (⟨"MarkedSteps$Machine", "beginFrame", "(I[LMarkedSteps$Slot;I)Z"⟩, 16) := ⟨⟨by decide +kernel, by decide +kernel⟩, List.mem_of_getElem? (i := 24) (by decide +kernel), List.mem_of_getElem? (i := 414) (by decide +kernel), List.mem_of_getElem? (i := 415) (by decide +kernel)⟩
theorem lw_p17 : lw_okq (⟨"MarkedSteps$Purse", "paysFor", "(I)Z"⟩, 4) := ⟨⟨by decide +kernel, by decide +kernel⟩, List.mem_of_getElem? (i := 32) (by decide +kernel), List.mem_of_getElem? (i := 418) (by decide +kernel), List.mem_of_getElem? (i := 419) (by decide +kernel)⟩
theorem lw_p18 : lw_okq (⟨"MarkedSteps$Purse", "takes", "(J)Z"⟩, 4) := ⟨⟨by decide +kernel, by decide +kernel⟩, List.mem_of_getElem? (i := 32) (by decide +kernel), List.mem_of_getElem? (i := 422) (by decide +kernel), List.mem_of_getElem? (i := 423) (by decide +kernel)⟩
theorem lw_p19 : lw_okq (⟨"MarkedSteps$Frame", "begin", "(LMarkedSteps$Member;I[LMarkedSteps$Slot;I)V"⟩, 7) := ⟨⟨by decide +kernel, by decide +kernel⟩, List.mem_of_getElem? (i := 156) (by decide +kernel), List.mem_of_getElem? (i := 426) (by decide +kernel), List.mem_of_getElem? (i := 427) (by decide +kernel)⟩
theorem lw_p20 : lw_okq (⟨"MarkedSteps$Machine", "keepTrace", "(I)V"⟩, 16) := ⟨⟨by decide +kernel, by decide +kernel⟩, List.mem_of_getElem? (i := 24) (by decide +kernel), List.mem_of_getElem? (i := 435) (by decide +kernel), List.mem_of_getElem? (i := 436) (by decide +kernel)⟩
theorem lw_p21 : lw_okq (⟨"MarkedSteps$Machine", "endFramesBehindTheirActs", "()I"⟩, 16) := ⟨⟨by decide +kernel, by decide +kernel⟩, List.mem_of_getElem? (i := 24) (by decide +kernel), List.mem_of_getElem? (i := 439) (by decide +kernel), List.mem_of_getElem? (i := 440) (by decide +kernel)⟩
theorem lw_p22 : lw_okq (⟨"MarkedSteps$Machine", "top", "()LMarkedSteps$Frame;"⟩, 16) := ⟨⟨by decide +kernel, by decide +kernel⟩, List.mem_of_getElem? (i := 24) (by decide +kernel), List.mem_of_getElem? (i := 443) (by decide +kernel), List.mem_of_getElem? (i := 444) (by decide +kernel)⟩
theorem lw_p23 : lw_okq (⟨"MarkedSteps$Frame", "isBehindItsActs", "()Z"⟩, 7) := ⟨⟨by decide +kernel, by decide +kernel⟩, List.mem_of_getElem? (i := 156) (by decide +kernel), List.mem_of_getElem? (i := 447) (by decide +kernel), List.mem_of_getElem? (i := 448) (by decide +kernel)⟩
theorem lw_p24 : lw_okq (⟨"MarkedSteps$Machine", "endFrame", "()V"⟩, 16) := ⟨⟨by decide +kernel, by decide +kernel⟩, List.mem_of_getElem? (i := 24) (by decide +kernel), List.mem_of_getElem? (i := 451) (by decide +kernel), List.mem_of_getElem? (i := 452) (by decide +kernel)⟩
theorem lw_p25 : lw_okq (⟨"MarkedSteps$Monitors", "leaveAll", "(LMarkedSteps$Frame;)V"⟩, 1) := ⟨⟨by decide +kernel, by decide +kernel⟩, List.mem_of_getElem? (i := 56) (by decide +kernel), List.mem_of_getElem? (i := 455) (by decide +kernel), List.mem_of_getElem? (i := 456) (by decide +kernel)⟩
theorem lw_p26 : lw_okq (⟨"MarkedSteps$Frame", "takeGiven", "(LMarkedSteps$Slot;)V"⟩, 7) := ⟨⟨by decide +kernel, by decide +kernel⟩, List.mem_of_getElem? (i := 156) (by decide +kernel), List.mem_of_getElem? (i := 459) (by decide +kernel), List.mem_of_getElem? (i := 460) (by decide +kernel)⟩
theorem lw_p27 : lw_okq (⟨"MarkedSteps$Frame", "named", "(I)LMarkedSteps$Slot;"⟩, 7) := ⟨⟨by decide +kernel, by decide +kernel⟩, List.mem_of_getElem? (i := 156) (by decide +kernel), List.mem_of_getElem? (i := 464) (by decide +kernel), List.mem_of_getElem? (i := 465) (by decide +kernel)⟩
theorem lw_p28 : lw_okq (⟨"MarkedSteps$Machine", "stop", "()I"⟩, 16) := ⟨⟨by decide +kernel, by decide +kernel⟩, List.mem_of_getElem? (i := 24) (by decide +kernel), List.mem_of_getElem? (i := 469) (by decide +kernel), List.mem_of_getElem? (i := 470) (by decide +kernel)⟩
theorem lw_p29 : lw_okq (⟨"MarkedSteps$Machine", "doActs", "(I)I"⟩, 16) := ⟨⟨by decide +kernel, by decide +kernel⟩, List.mem_of_getElem? (i := 24) (by decide +kernel), List.mem_of_getElem? (i := 474) (by decide +kernel), List.mem_of_getElem? (i := 475) (by decide +kernel)⟩
theorem lw_p30 : lw_okq (⟨"MarkedSteps$Machine", "doOneAct", "()I"⟩, 16) := ⟨⟨by decide +kernel, by decide +kernel⟩, List.mem_of_getElem? (i := 24) (by decide +kernel), List.mem_of_getElem? (i := 478) (by decide +kernel), List.mem_of_getElem? (i := 479) (by decide +kernel)⟩
theorem lw_p31 : lw_okq (⟨"MarkedSteps$Machine", "perform", "(LMarkedSteps$Frame;)I"⟩, 16) := ⟨⟨by decide +kernel, by decide +kernel⟩, List.mem_of_getElem? (i := 24) (by decide +kernel), List.mem_of_getElem? (i := 482) (by decide +kernel), List.mem_of_getElem? (i := 483) (by decide +kernel)⟩
def lw_privs_2 : List (MethodName × Nat) := [(⟨"MarkedSteps$Machine", "beginFrame", "(I[LMarkedSteps$Slot;I)Z"⟩, 16), (⟨"MarkedSteps$Purse", "paysFor", "(I)Z"⟩, 4), (⟨"MarkedSteps$Purse", "takes", "(J)Z"⟩, 4), (⟨"MarkedSteps$Frame", "begin", "(LMarkedSteps$Member;I[LMarkedSteps$Slot;I)V"⟩, 7), (⟨"MarkedSteps$Machine", "keepTrace", "(I)V"⟩, 16), (⟨"MarkedSteps$Machine", "endFramesBehindTheirActs", "()I"⟩, 16), (⟨"MarkedSteps$Machine", "top", "()LMarkedSteps$Frame;"⟩, 16), (⟨"MarkedSteps$Frame", "isBehindItsActs", "()Z"⟩, 7), (⟨"MarkedSteps$Machine", "endFrame", "()V"⟩, 16), (⟨"MarkedSteps$Monitors", "leaveAll", "(LMarkedSteps$Frame;)V"⟩, 1), (⟨"MarkedSteps$Frame", "takeGiven", "(LMarkedSteps$Slot;)V"⟩, 7), (⟨"MarkedSteps$Frame", "named", "(I)LMarkedSteps$Slot;"⟩, 7), (⟨"MarkedSteps$Machine", "stop", "()I"⟩, 16), (⟨"MarkedSteps$Machine", "doActs", "(I)I"⟩, 16), (⟨"MarkedSteps$Machine", "doOneAct", "()I"⟩, 16), (⟨"MarkedSteps$Machine", "perform", "(LMarkedSteps$Frame;)I"⟩, 16)]
theorem lw_r2 : ∀ q ∈ lw_privs_2, lw_okq q := List.forall_mem_cons.mpr ⟨lw_p16, List.forall_mem_cons.mpr ⟨lw_p17, List.forall_mem_cons.mpr ⟨lw_p18, List.forall_mem_cons.mpr ⟨lw_p19, List.forall_mem_cons.mpr ⟨lw_p20, List.forall_mem_cons.mpr ⟨lw_p21, List.forall_mem_cons.mpr ⟨lw_p22, List.forall_mem_cons.mpr ⟨lw_p23, List.forall_mem_cons.mpr ⟨lw_p24, List.forall_mem_cons.mpr ⟨lw_p25, List.forall_mem_cons.mpr ⟨lw_p26, List.forall_mem_cons.mpr ⟨lw_p27, List.forall_mem_cons.mpr ⟨lw_p28, List.forall_mem_cons.mpr ⟨lw_p29, List.forall_mem_cons.mpr ⟨lw_p30, List.forall_mem_cons.mpr ⟨lw_p31, fun _ h => absurd h List.not_mem_nil⟩⟩⟩⟩⟩⟩⟩⟩⟩⟩⟩⟩⟩⟩⟩⟩
theorem lw_p32 : lw_okq (⟨"MarkedSteps$Slot", "isSameAs", "(LMarkedSteps$Slot;)Z"⟩, 4) := ⟨⟨by decide +kernel, by decide +kernel⟩, List.mem_of_getElem? (i := 68) (by decide +kernel), List.mem_of_getElem? (i := 488) (by decide +kernel), List.mem_of_getElem? (i := 489) (by decide +kernel)⟩
theorem lw_p33 : lw_okq (⟨"MarkedSteps$Machine", "goTo", "(LMarkedSteps$Frame;I)I"⟩, 16) := ⟨⟨by decide +kernel, by decide +kernel⟩, List.mem_of_getElem? (i := 24) (by decide +kernel), List.mem_of_getElem? (i := 492) (by decide +kernel), List.mem_of_getElem? (i := 493) (by decide +kernel)⟩
theorem lw_p34 : lw_okq (⟨"MarkedSteps$Machine", "branch", "(LMarkedSteps$Frame;LMarkedSteps$Slot;I)I"⟩, 16) := ⟨⟨by decide +kernel, by decide +kernel⟩, List.mem_of_getElem? (i := 24) (by decide +kernel), List.mem_of_getElem? (i := 496) (by decide +kernel), List.mem_of_getElem? (i := 497) (by decide +kernel)⟩
theorem lw_p35 : lw_okq (⟨"MarkedSteps$Slot", "misfitAsNumber", "()I"⟩, 4) := ⟨⟨by decide +kernel, by decide +kernel⟩, List.mem_of_getElem? (i := 68) (by decide +kernel), List.mem_of_getElem? (i := 500) (by decide +kernel), List.mem_of_getElem? (i := 501) (by decide +kernel)⟩
theorem lw_p36 : lw_okq (⟨"MarkedSteps$Slot", "misfit", "()I"⟩, 4) := ⟨⟨by decide +kernel, by decide +kernel⟩, List.mem_of_getElem? (i := 68) (by decide +kernel), List.mem_of_getElem? (i := 504) (by decide +kernel), List.mem_of_getElem? (i := 505) (by decide +kernel)⟩
theorem lw_p37 : lw_okq (⟨"MarkedSteps$Machine", "makeRow", "(LMarkedSteps$Slot;LMarkedSteps$Slot;I)I"⟩, 16) := ⟨⟨by decide +kernel, by decide +kernel⟩, List.mem_of_getElem? (i := 24) (by decide +kernel), List.mem_of_getElem? (i := 508) (by decide +kernel), List.mem_of_getElem? (i := 509) (by decide +kernel)⟩
theorem lw_p38 : lw_okq (⟨"MarkedSteps$Purse", "paysForRow", "(I)Z"⟩, 4) := ⟨⟨by decide +kernel, by decide +kernel⟩, List.mem_of_getElem? (i := 32) (by decide +kernel), List.mem_of_getElem? (i := 512) (by decide +kernel), List.mem_of_getElem? (i := 513) (by decide +kernel)⟩
theorem lw_p39 : lw_okq (⟨"MarkedSteps$Slot", "becomeRow", "(LMarkedSteps$Row;)V"⟩, 4) := ⟨⟨by decide +kernel, by decide +kernel⟩, List.mem_of_getElem? (i := 68) (by decide +kernel), List.mem_of_getElem? (i := 543) (by decide +kernel), List.mem_of_getElem? (i := 544) (by decide +kernel)⟩
theorem lw_p40 : lw_okq (⟨"MarkedSteps$Machine", "makeCell", "(LMarkedSteps$Slot;I)I"⟩, 16) := ⟨⟨by decide +kernel, by decide +kernel⟩, List.mem_of_getElem? (i := 24) (by decide +kernel), List.mem_of_getElem? (i := 547) (by decide +kernel), List.mem_of_getElem? (i := 548) (by decide +kernel)⟩
theorem lw_p41 : lw_okq (⟨"MarkedSteps$Slot", "becomeCell", "(LMarkedSteps$Cell;)V"⟩, 4) := ⟨⟨by decide +kernel, by decide +kernel⟩, List.mem_of_getElem? (i := 68) (by decide +kernel), List.mem_of_getElem? (i := 578) (by decide +kernel), List.mem_of_getElem? (i := 579) (by decide +kernel)⟩
theorem lw_p42 : lw_okq (⟨"MarkedSteps$Row", "misfitInCell", "(LMarkedSteps$Slot;)I"⟩, 4) := ⟨⟨by decide +kernel, by decide +kernel⟩, List.mem_of_getElem? (i := 516) (by decide +kernel), List.mem_of_getElem? (i := 586) (by decide +kernel), List.mem_of_getElem? (i := 587) (by decide +kernel)⟩
theorem lw_p43 : lw_okq (⟨"MarkedSteps$Slot", "isNothing", "()Z"⟩, 4) := ⟨⟨by decide +kernel, by decide +kernel⟩, List.mem_of_getElem? (i := 68) (by decide +kernel), List.mem_of_getElem? (i := 591) (by decide +kernel), List.mem_of_getElem? (i := 592) (by decide +kernel)⟩
theorem lw_p44 : lw_okq (⟨"MarkedSteps$Row", "lacksCell", "(I)Z"⟩, 4) := ⟨⟨by decide +kernel, by decide +kernel⟩, List.mem_of_getElem? (i := 516) (by decide +kernel), List.mem_of_getElem? (i := 595) (by decide +kernel), List.mem_of_getElem? (i := 596) (by decide +kernel)⟩
theorem lw_p45 : lw_okq (⟨"MarkedSteps$Row", "copyFrom", "(LMarkedSteps$Slot;I)V"⟩, 4) := ⟨⟨by decide +kernel, by decide +kernel⟩, List.mem_of_getElem? (i := 516) (by decide +kernel), List.mem_of_getElem? (i := 599) (by decide +kernel), List.mem_of_getElem? (i := 600) (by decide +kernel)⟩
theorem lw_p46 : lw_okq (⟨"MarkedSteps$Row", "narrowed", "(I)I"⟩, 4) := ⟨⟨by decide +kernel, by decide +kernel⟩, List.mem_of_getElem? (i := 516) (by decide +kernel), List.mem_of_getElem? (i := 603) (by decide +kernel), List.mem_of_getElem? (i := 604) (by decide +kernel)⟩
theorem lw_p47 : lw_okq (⟨"MarkedSteps$Row", "copyTo", "(LMarkedSteps$Slot;I)V"⟩, 4) := ⟨⟨by decide +kernel, by decide +kernel⟩, List.mem_of_getElem? (i := 516) (by decide +kernel), List.mem_of_getElem? (i := 611) (by decide +kernel), List.mem_of_getElem? (i := 612) (by decide +kernel)⟩
def lw_privs_3 : List (MethodName × Nat) := [(⟨"MarkedSteps$Slot", "isSameAs", "(LMarkedSteps$Slot;)Z"⟩, 4), (⟨"MarkedSteps$Machine", "goTo", "(LMarkedSteps$Frame;I)I"⟩, 16), (⟨"MarkedSteps$Machine", "branch", "(LMarkedSteps$Frame;LMarkedSteps$Slot;I)I"⟩, 16), (⟨"MarkedSteps$Slot", "misfitAsNumber", "()I"⟩, 4), (⟨"MarkedSteps$Slot", "misfit", "()I"⟩, 4), (⟨"MarkedSteps$Machine", "makeRow", "(LMarkedSteps$Slot;LMarkedSteps$Slot;I)I"⟩, 16), (⟨"MarkedSteps$Purse", "paysForRow", "(I)Z"⟩, 4), (⟨"MarkedSteps$Slot", "becomeRow", "(LMarkedSteps$Row;)V"⟩, 4), (⟨"MarkedSteps$Machine", "makeCell", "(LMarkedSteps$Slot;I)I"⟩, 16), (⟨"MarkedSteps$Slot", "becomeCell", "(LMarkedSteps$Cell;)V"⟩, 4), (⟨"MarkedSteps$Row", "misfitInCell", "(LMarkedSteps$Slot;)I"⟩, 4), (⟨"MarkedSteps$Slot", "isNothing", "()Z"⟩, 4), (⟨"MarkedSteps$Row", "lacksCell", "(I)Z"⟩, 4), (⟨"MarkedSteps$Row", "copyFrom", "(LMarkedSteps$Slot;I)V"⟩, 4), (⟨"MarkedSteps$Row", "narrowed", "(I)I"⟩, 4), (⟨"MarkedSteps$Row", "copyTo", "(LMarkedSteps$Slot;I)V"⟩, 4)]
theorem lw_r3 : ∀ q ∈ lw_privs_3, lw_okq q := List.forall_mem_cons.mpr ⟨lw_p32, List.forall_mem_cons.mpr ⟨lw_p33, List.forall_mem_cons.mpr ⟨lw_p34, List.forall_mem_cons.mpr ⟨lw_p35, List.forall_mem_cons.mpr ⟨lw_p36, List.forall_mem_cons.mpr ⟨lw_p37, List.forall_mem_cons.mpr ⟨lw_p38, List.forall_mem_cons.mpr ⟨lw_p39, List.forall_mem_cons.mpr ⟨lw_p40, List.forall_mem_cons.mpr ⟨lw_p41, List.forall_mem_cons.mpr ⟨lw_p42, List.forall_mem_cons.mpr ⟨lw_p43, List.forall_mem_cons.mpr ⟨lw_p44, List.forall_mem_cons.mpr ⟨lw_p45, List.forall_mem_cons.mpr ⟨lw_p46, List.forall_mem_cons.mpr ⟨lw_p47, fun _ h => absurd h List.not_mem_nil⟩⟩⟩⟩⟩⟩⟩⟩⟩⟩⟩⟩⟩⟩⟩⟩
theorem lw_p48 : lw_okq (⟨"MarkedSteps$Cell", "otherMark", "()I"⟩, 4) := ⟨⟨by decide +kernel, by decide +kernel⟩, List.mem_of_getElem? (i := 551) (by decide +kernel), List.mem_of_getElem? (i := 624) (by decide +kernel), List.mem_of_getElem? (i := 625) (by decide +kernel)⟩
theorem lw_p49 : lw_okq (⟨"MarkedSteps$Slot", "isOf", "(I)Z"⟩, 4) := ⟨⟨by decide +kernel, by decide +kernel⟩, List.mem_of_getElem? (i := 68) (by decide +kernel), List.mem_of_getElem? (i := 631) (by decide +kernel), List.mem_of_getElem? (i := 632) (by decide +kernel)⟩
theorem lw_p50 : lw_okq (⟨"MarkedSteps$Machine", "enter", "(LMarkedSteps$Frame;LMarkedSteps$Slot;)I"⟩, 16) := ⟨⟨by decide +kernel, by decide +kernel⟩, List.mem_of_getElem? (i := 24) (by decide +kernel), List.mem_of_getElem? (i := 637) (by decide +kernel), List.mem_of_getElem? (i := 638) (by decide +kernel)⟩
theorem lw_p51 : lw_okq (⟨"MarkedSteps$Monitors", "enter", "(LMarkedSteps$Frame;LMarkedSteps$Cell;)V"⟩, 1) := ⟨⟨by decide +kernel, by decide +kernel⟩, List.mem_of_getElem? (i := 56) (by decide +kernel), List.mem_of_getElem? (i := 641) (by decide +kernel), List.mem_of_getElem? (i := 642) (by decide +kernel)⟩
theorem lw_p52 : lw_okq (⟨"MarkedSteps$Monitors", "newHold", "(LMarkedSteps$Frame;LMarkedSteps$Cell;)LMarkedSteps$Hold;"⟩, 1) := ⟨⟨by decide +kernel, by decide +kernel⟩, List.mem_of_getElem? (i := 56) (by decide +kernel), List.mem_of_getElem? (i := 645) (by decide +kernel), List.mem_of_getElem? (i := 646) (by decide +kernel)⟩
theorem lw_p53 : lw_okq (⟨"MarkedSteps$Machine", "leave", "(LMarkedSteps$Frame;LMarkedSteps$Slot;)I"⟩, 16) := ⟨⟨by decide +kernel, by decide +kernel⟩, List.mem_of_getElem? (i := 24) (by decide +kernel), List.mem_of_getElem? (i := 673) (by decide +kernel), List.mem_of_getElem? (i := 674) (by decide +kernel)⟩
theorem lw_p54 : lw_okq (⟨"MarkedSteps$Monitors", "leave", "(LMarkedSteps$Frame;LMarkedSteps$Cell;)Z"⟩, 1) := ⟨⟨by decide +kernel, by decide +kernel⟩, List.mem_of_getElem? (i := 56) (by decide +kernel), List.mem_of_getElem? (i := 677) (by decide +kernel), List.mem_of_getElem? (i := 678) (by decide +kernel)⟩
theorem lw_p55 : lw_okq (⟨"MarkedSteps$Machine", "throwOwn", "(LMarkedSteps$Slot;)I"⟩, 16) := ⟨⟨by decide +kernel, by decide +kernel⟩, List.mem_of_getElem? (i := 24) (by decide +kernel), List.mem_of_getElem? (i := 681) (by decide +kernel), List.mem_of_getElem? (i := 682) (by decide +kernel)⟩
theorem lw_p56 : lw_okq (⟨"MarkedSteps$Machine", "call", "(LMarkedSteps$Frame;II)I"⟩, 16) := ⟨⟨by decide +kernel, by decide +kernel⟩, List.mem_of_getElem? (i := 24) (by decide +kernel), List.mem_of_getElem? (i := 685) (by decide +kernel), List.mem_of_getElem? (i := 686) (by decide +kernel)⟩
theorem lw_p57 : lw_okq (⟨"MarkedSteps$Frame", "give", "(LMarkedSteps$Slot;)V"⟩, 7) := ⟨⟨by decide +kernel, by decide +kernel⟩, List.mem_of_getElem? (i := 156) (by decide +kernel), List.mem_of_getElem? (i := 690) (by decide +kernel), List.mem_of_getElem? (i := 691) (by decide +kernel)⟩
theorem lw_p58 : lw_okq (⟨"MarkedSteps$Machine", "note", "(LMarkedSteps$Slot;LMarkedSteps$Slot;)I"⟩, 16) := ⟨⟨by decide +kernel, by decide +kernel⟩, List.mem_of_getElem? (i := 24) (by decide +kernel), List.mem_of_getElem? (i := 694) (by decide +kernel), List.mem_of_getElem? (i := 695) (by decide +kernel)⟩
theorem lw_p59 : lw_okq (⟨"MarkedSteps$Machine", "ask", "(LMarkedSteps$Slot;LMarkedSteps$Slot;)I"⟩, 16) := ⟨⟨by decide +kernel, by decide +kernel⟩, List.mem_of_getElem? (i := 24) (by decide +kernel), List.mem_of_getElem? (i := 702) (by decide +kernel), List.mem_of_getElem? (i := 703) (by decide +kernel)⟩
theorem lw_p60 : lw_okq (⟨"MarkedSteps$Machine", "weigh", "(LMarkedSteps$Slot;LMarkedSteps$Slot;)I"⟩, 16) := ⟨⟨by decide +kernel, by decide +kernel⟩, List.mem_of_getElem? (i := 24) (by decide +kernel), List.mem_of_getElem? (i := 706) (by decide +kernel), List.mem_of_getElem? (i := 707) (by decide +kernel)⟩
theorem lw_p61 : lw_okq (⟨"MarkedSteps$Cell", "bodiesOfWeight", "()I"⟩, 4) := ⟨⟨by decide +kernel, by decide +kernel⟩, List.mem_of_getElem? (i := 551) (by decide +kernel), List.mem_of_getElem? (i := 710) (by decide +kernel), List.mem_of_getElem? (i := 711) (by decide +kernel)⟩
theorem lw_p62 : lw_okq (⟨"MarkedSteps$Cell", "weight", "()I"⟩, 4) := ⟨⟨by decide +kernel, by decide +kernel⟩, List.mem_of_getElem? (i := 551) (by decide +kernel), List.mem_of_getElem? (i := 714) (by decide +kernel), List.mem_of_getElem? (i := 715) (by decide +kernel)⟩
theorem lw_p63 : lw_okq (⟨"MarkedSteps$Machine", "goToHandler", "(I)I"⟩, 16) := ⟨⟨by decide +kernel, by decide +kernel⟩, List.mem_of_getElem? (i := 24) (by decide +kernel), List.mem_of_getElem? (i := 721) (by decide +kernel), List.mem_of_getElem? (i := 722) (by decide +kernel)⟩
def lw_privs_4 : List (MethodName × Nat) := [(⟨"MarkedSteps$Cell", "otherMark", "()I"⟩, 4), (⟨"MarkedSteps$Slot", "isOf", "(I)Z"⟩, 4), (⟨"MarkedSteps$Machine", "enter", "(LMarkedSteps$Frame;LMarkedSteps$Slot;)I"⟩, 16), (⟨"MarkedSteps$Monitors", "enter", "(LMarkedSteps$Frame;LMarkedSteps$Cell;)V"⟩, 1), (⟨"MarkedSteps$Monitors", "newHold", "(LMarkedSteps$Frame;LMarkedSteps$Cell;)LMarkedSteps$Hold;"⟩, 1), (⟨"MarkedSteps$Machine", "leave", "(LMarkedSteps$Frame;LMarkedSteps$Slot;)I"⟩, 16), (⟨"MarkedSteps$Monitors", "leave", "(LMarkedSteps$Frame;LMarkedSteps$Cell;)Z"⟩, 1), (⟨"MarkedSteps$Machine", "throwOwn", "(LMarkedSteps$Slot;)I"⟩, 16), (⟨"MarkedSteps$Machine", "call", "(LMarkedSteps$Frame;II)I"⟩, 16), (⟨"MarkedSteps$Frame", "give", "(LMarkedSteps$Slot;)V"⟩, 7), (⟨"MarkedSteps$Machine", "note", "(LMarkedSteps$Slot;LMarkedSteps$Slot;)I"⟩, 16), (⟨"MarkedSteps$Machine", "ask", "(LMarkedSteps$Slot;LMarkedSteps$Slot;)I"⟩, 16), (⟨"MarkedSteps$Machine", "weigh", "(LMarkedSteps$Slot;LMarkedSteps$Slot;)I"⟩, 16), (⟨"MarkedSteps$Cell", "bodiesOfWeight", "()I"⟩, 4), (⟨"MarkedSteps$Cell", "weight", "()I"⟩, 4), (⟨"MarkedSteps$Machine", "goToHandler", "(I)I"⟩, 16)]
theorem lw_r4 : ∀ q ∈ lw_privs_4, lw_okq q := List.forall_mem_cons.mpr ⟨lw_p48, List.forall_mem_cons.mpr ⟨lw_p49, List.forall_mem_cons.mpr ⟨lw_p50, List.forall_mem_cons.mpr ⟨lw_p51, List.forall_mem_cons.mpr ⟨lw_p52, List.forall_mem_cons.mpr ⟨lw_p53, List.forall_mem_cons.mpr ⟨lw_p54, List.forall_mem_cons.mpr ⟨lw_p55, List.forall_mem_cons.mpr ⟨lw_p56, List.forall_mem_cons.mpr ⟨lw_p57, List.forall_mem_cons.mpr ⟨lw_p58, List.forall_mem_cons.mpr ⟨lw_p59, List.forall_mem_cons.mpr ⟨lw_p60, List.forall_mem_cons.mpr ⟨lw_p61, List.forall_mem_cons.mpr ⟨lw_p62, List.forall_mem_cons.mpr ⟨lw_p63, fun _ h => absurd h List.not_mem_nil⟩⟩⟩⟩⟩⟩⟩⟩⟩⟩⟩⟩⟩⟩⟩⟩
theorem lw_p64 : lw_okq (⟨"MarkedSteps$Member", "firstHandlerOf", "(II)I"⟩, 12) := ⟨⟨by decide +kernel, by decide +kernel⟩, List.mem_of_getElem? (i := 95) (by decide +kernel), List.mem_of_getElem? (i := 725) (by decide +kernel), List.mem_of_getElem? (i := 726) (by decide +kernel)⟩
theorem lw_p65 : lw_okq (⟨"MarkedSteps$Machine", "beginHandler", "(LMarkedSteps$Frame;II)I"⟩, 16) := ⟨⟨by decide +kernel, by decide +kernel⟩, List.mem_of_getElem? (i := 24) (by decide +kernel), List.mem_of_getElem? (i := 730) (by decide +kernel), List.mem_of_getElem? (i := 731) (by decide +kernel)⟩
theorem lw_p66 : lw_okq (⟨"MarkedSteps$Slot", "measure", "()I"⟩, 4) := ⟨⟨by decide +kernel, by decide +kernel⟩, List.mem_of_getElem? (i := 68) (by decide +kernel), List.mem_of_getElem? (i := 738) (by decide +kernel), List.mem_of_getElem? (i := 739) (by decide +kernel)⟩
theorem lw_p67 : lw_okq (⟨"MarkedSteps$Cell", "timesHeld", "()I"⟩, 4) := ⟨⟨by decide +kernel, by decide +kernel⟩, List.mem_of_getElem? (i := 551) (by decide +kernel), List.mem_of_getElem? (i := 742) (by decide +kernel), List.mem_of_getElem? (i := 743) (by decide +kernel)⟩
theorem lw_p68 : lw_okq (⟨"MarkedSteps$Machine", "holdings", "()I"⟩, 16) := ⟨⟨by decide +kernel, by decide +kernel⟩, List.mem_of_getElem? (i := 24) (by decide +kernel), List.mem_of_getElem? (i := 781) (by decide +kernel), List.mem_of_getElem? (i := 782) (by decide +kernel)⟩
theorem lw_p69 : lw_okq (⟨"MarkedStepsModel", "isMember", "(I)Z"⟩, 49) := ⟨⟨by decide +kernel, by decide +kernel⟩, List.mem_of_getElem? (i := 798) (by decide +kernel), List.mem_of_getElem? (i := 964) (by decide +kernel), List.mem_of_getElem? (i := 965) (by decide +kernel)⟩
theorem lw_p70 : lw_okq (⟨"MarkedStepsModel", "spread", "(II)V"⟩, 49) := ⟨⟨by decide +kernel, by decide +kernel⟩, List.mem_of_getElem? (i := 798) (by decide +kernel), List.mem_of_getElem? (i := 990) (by decide +kernel), List.mem_of_getElem? (i := 991) (by decide +kernel)⟩
theorem lw_p71 : lw_okq (⟨"MarkedStepsModel", "makes", "(I)I"⟩, 49) := ⟨⟨by decide +kernel, by decide +kernel⟩, List.mem_of_getElem? (i := 798) (by decide +kernel), List.mem_of_getElem? (i := 994) (by decide +kernel), List.mem_of_getElem? (i := 995) (by decide +kernel)⟩
theorem lw_p72 : lw_okq (⟨"MarkedStepsModel", "comes", "(II)V"⟩, 49) := ⟨⟨by decide +kernel, by decide +kernel⟩, List.mem_of_getElem? (i := 798) (by decide +kernel), List.mem_of_getElem? (i := 998) (by decide +kernel), List.mem_of_getElem? (i := 999) (by decide +kernel)⟩
theorem lw_p73 : lw_okq (⟨"MarkedStepsModel", "looked", "(I)I"⟩, 49) := ⟨⟨by decide +kernel, by decide +kernel⟩, List.mem_of_getElem? (i := 798) (by decide +kernel), List.mem_of_getElem? (i := 1002) (by decide +kernel), List.mem_of_getElem? (i := 1003) (by decide +kernel)⟩
theorem lw_p74 : lw_okq (⟨"MarkedStepsModel", "start", "(II)V"⟩, 49) := ⟨⟨by decide +kernel, by decide +kernel⟩, List.mem_of_getElem? (i := 798) (by decide +kernel), List.mem_of_getElem? (i := 1026) (by decide +kernel), List.mem_of_getElem? (i := 1027) (by decide +kernel)⟩
theorem lw_p75 : lw_okq (⟨"MarkedStepsModel", "begins", "(II)Z"⟩, 49) := ⟨⟨by decide +kernel, by decide +kernel⟩, List.mem_of_getElem? (i := 798) (by decide +kernel), List.mem_of_getElem? (i := 1030) (by decide +kernel), List.mem_of_getElem? (i := 1031) (by decide +kernel)⟩
theorem lw_p76 : lw_okq (⟨"MarkedStepsModel", "pays", "(J)Z"⟩, 49) := ⟨⟨by decide +kernel, by decide +kernel⟩, List.mem_of_getElem? (i := 798) (by decide +kernel), List.mem_of_getElem? (i := 1034) (by decide +kernel), List.mem_of_getElem? (i := 1035) (by decide +kernel)⟩
theorem lw_p77 : lw_okq (⟨"MarkedStepsModel", "traces", "(I)V"⟩, 49) := ⟨⟨by decide +kernel, by decide +kernel⟩, List.mem_of_getElem? (i := 798) (by decide +kernel), List.mem_of_getElem? (i := 1038) (by decide +kernel), List.mem_of_getElem? (i := 1039) (by decide +kernel)⟩
theorem lw_p78 : lw_okq (⟨"MarkedStepsModel", "stops", "()V"⟩, 49) := ⟨⟨by decide +kernel, by decide +kernel⟩, List.mem_of_getElem? (i := 798) (by decide +kernel), List.mem_of_getElem? (i := 1042) (by decide +kernel), List.mem_of_getElem? (i := 1043) (by decide +kernel)⟩
theorem lw_p79 : lw_okq (⟨"MarkedStepsModel", "release", "(I)V"⟩, 49) := ⟨⟨by decide +kernel, by decide +kernel⟩, List.mem_of_getElem? (i := 798) (by decide +kernel), List.mem_of_getElem? (i := 1046) (by decide +kernel), List.mem_of_getElem? (i := 1047) (by decide +kernel)⟩
def lw_privs_5 : List (MethodName × Nat) := [(⟨"MarkedSteps$Member", "firstHandlerOf", "(II)I"⟩, 12), (⟨"MarkedSteps$Machine", "beginHandler", "(LMarkedSteps$Frame;II)I"⟩, 16), (⟨"MarkedSteps$Slot", "measure", "()I"⟩, 4), (⟨"MarkedSteps$Cell", "timesHeld", "()I"⟩, 4), (⟨"MarkedSteps$Machine", "holdings", "()I"⟩, 16), (⟨"MarkedStepsModel", "isMember", "(I)Z"⟩, 49), (⟨"MarkedStepsModel", "spread", "(II)V"⟩, 49), (⟨"MarkedStepsModel", "makes", "(I)I"⟩, 49), (⟨"MarkedStepsModel", "comes", "(II)V"⟩, 49), (⟨"MarkedStepsModel", "looked", "(I)I"⟩, 49), (⟨"MarkedStepsModel", "start", "(II)V"⟩, 49), (⟨"MarkedStepsModel", "begins", "(II)Z"⟩, 49), (⟨"MarkedStepsModel", "pays", "(J)Z"⟩, 49), (⟨"MarkedStepsModel", "traces", "(I)V"⟩, 49), (⟨"MarkedStepsModel", "stops", "()V"⟩, 49), (⟨"MarkedStepsModel", "release", "(I)V"⟩, 49)]
theorem lw_r5 : ∀ q ∈ lw_privs_5, lw_okq q := List.forall_mem_cons.mpr ⟨lw_p64, List.forall_mem_cons.mpr ⟨lw_p65, List.forall_mem_cons.mpr ⟨lw_p66, List.forall_mem_cons.mpr ⟨lw_p67, List.forall_mem_cons.mpr ⟨lw_p68, List.forall_mem_cons.mpr ⟨lw_p69, List.forall_mem_cons.mpr ⟨lw_p70, List.forall_mem_cons.mpr ⟨lw_p71, List.forall_mem_cons.mpr ⟨lw_p72, List.forall_mem_cons.mpr ⟨lw_p73, List.forall_mem_cons.mpr ⟨lw_p74, List.forall_mem_cons.mpr ⟨lw_p75, List.forall_mem_cons.mpr ⟨lw_p76, List.forall_mem_cons.mpr ⟨lw_p77, List.forall_mem_cons.mpr ⟨lw_p78, List.forall_mem_cons.mpr ⟨lw_p79, fun _ h => absurd h List.not_mem_nil⟩⟩⟩⟩⟩⟩⟩⟩⟩⟩⟩⟩⟩⟩⟩⟩
theorem lw_p80 : lw_okq (⟨"MarkedStepsModel", "settle", "()V"⟩, 49) := ⟨⟨by decide +kernel, by decide +kernel⟩, List.mem_of_getElem? (i := 798) (by decide +kernel), List.mem_of_getElem? (i := 1050) (by decide +kernel), List.mem_of_getElem? (i := 1051) (by decide +kernel)⟩
theorem lw_p81 : lw_okq (⟨"MarkedStepsModel", "gives", "(II)V"⟩, 49) := ⟨⟨by decide +kernel, by decide +kernel⟩, List.mem_of_getElem? (i := 798) (by decide +kernel), List.mem_of_getElem? (i := 1054) (by decide +kernel), List.mem_of_getElem? (i := 1055) (by decide +kernel)⟩
theorem lw_p82 : lw_okq (⟨"MarkedStepsModel", "goOn", "()V"⟩, 49) := ⟨⟨by decide +kernel, by decide +kernel⟩, List.mem_of_getElem? (i := 798) (by decide +kernel), List.mem_of_getElem? (i := 1058) (by decide +kernel), List.mem_of_getElem? (i := 1059) (by decide +kernel)⟩
theorem lw_p83 : lw_okq (⟨"MarkedStepsModel", "does", "(I)I"⟩, 49) := ⟨⟨by decide +kernel, by decide +kernel⟩, List.mem_of_getElem? (i := 798) (by decide +kernel), List.mem_of_getElem? (i := 1062) (by decide +kernel), List.mem_of_getElem? (i := 1063) (by decide +kernel)⟩
theorem lw_p84 : lw_okq (⟨"MarkedStepsModel", "makes", "(II)V"⟩, 49) := ⟨⟨by decide +kernel, by decide +kernel⟩, List.mem_of_getElem? (i := 798) (by decide +kernel), List.mem_of_getElem? (i := 1066) (by decide +kernel), List.mem_of_getElem? (i := 1067) (by decide +kernel)⟩
theorem lw_p85 : lw_okq (⟨"MarkedStepsModel", "same", "()I"⟩, 49) := ⟨⟨by decide +kernel, by decide +kernel⟩, List.mem_of_getElem? (i := 798) (by decide +kernel), List.mem_of_getElem? (i := 1070) (by decide +kernel), List.mem_of_getElem? (i := 1071) (by decide +kernel)⟩
theorem lw_p86 : lw_okq (⟨"MarkedStepsModel", "value", "(I)I"⟩, 49) := ⟨⟨by decide +kernel, by decide +kernel⟩, List.mem_of_getElem? (i := 798) (by decide +kernel), List.mem_of_getElem? (i := 1074) (by decide +kernel), List.mem_of_getElem? (i := 1075) (by decide +kernel)⟩
theorem lw_p87 : lw_okq (⟨"MarkedStepsModel", "goes", "(I)I"⟩, 49) := ⟨⟨by decide +kernel, by decide +kernel⟩, List.mem_of_getElem? (i := 798) (by decide +kernel), List.mem_of_getElem? (i := 1078) (by decide +kernel), List.mem_of_getElem? (i := 1079) (by decide +kernel)⟩
theorem lw_p88 : lw_okq (⟨"MarkedStepsModel", "branch", "()I"⟩, 49) := ⟨⟨by decide +kernel, by decide +kernel⟩, List.mem_of_getElem? (i := 798) (by decide +kernel), List.mem_of_getElem? (i := 1082) (by decide +kernel), List.mem_of_getElem? (i := 1083) (by decide +kernel)⟩
theorem lw_p89 : lw_okq (⟨"MarkedStepsModel", "against", "(II)I"⟩, 49) := ⟨⟨by decide +kernel, by decide +kernel⟩, List.mem_of_getElem? (i := 798) (by decide +kernel), List.mem_of_getElem? (i := 1086) (by decide +kernel), List.mem_of_getElem? (i := 1087) (by decide +kernel)⟩
theorem lw_p90 : lw_okq (⟨"MarkedStepsModel", "newRow", "()I"⟩, 49) := ⟨⟨by decide +kernel, by decide +kernel⟩, List.mem_of_getElem? (i := 798) (by decide +kernel), List.mem_of_getElem? (i := 1090) (by decide +kernel), List.mem_of_getElem? (i := 1091) (by decide +kernel)⟩
theorem lw_p91 : lw_okq (⟨"MarkedStepsModel", "newCell", "()I"⟩, 49) := ⟨⟨by decide +kernel, by decide +kernel⟩, List.mem_of_getElem? (i := 798) (by decide +kernel), List.mem_of_getElem? (i := 1094) (by decide +kernel), List.mem_of_getElem? (i := 1095) (by decide +kernel)⟩
theorem lw_p92 : lw_okq (⟨"MarkedStepsModel", "put", "()I"⟩, 49) := ⟨⟨by decide +kernel, by decide +kernel⟩, List.mem_of_getElem? (i := 798) (by decide +kernel), List.mem_of_getElem? (i := 1098) (by decide +kernel), List.mem_of_getElem? (i := 1099) (by decide +kernel)⟩
theorem lw_p93 : lw_okq (⟨"MarkedStepsModel", "get", "()I"⟩, 49) := ⟨⟨by decide +kernel, by decide +kernel⟩, List.mem_of_getElem? (i := 798) (by decide +kernel), List.mem_of_getElem? (i := 1106) (by decide +kernel), List.mem_of_getElem? (i := 1107) (by decide +kernel)⟩
theorem lw_p94 : lw_okq (⟨"MarkedStepsModel", "length", "()I"⟩, 49) := ⟨⟨by decide +kernel, by decide +kernel⟩, List.mem_of_getElem? (i := 798) (by decide +kernel), List.mem_of_getElem? (i := 1110) (by decide +kernel), List.mem_of_getElem? (i := 1111) (by decide +kernel)⟩
theorem lw_p95 : lw_okq (⟨"MarkedStepsModel", "field", "()I"⟩, 49) := ⟨⟨by decide +kernel, by decide +kernel⟩, List.mem_of_getElem? (i := 798) (by decide +kernel), List.mem_of_getElem? (i := 1114) (by decide +kernel), List.mem_of_getElem? (i := 1115) (by decide +kernel)⟩
def lw_privs_6 : List (MethodName × Nat) := [(⟨"MarkedStepsModel", "settle", "()V"⟩, 49), (⟨"MarkedStepsModel", "gives", "(II)V"⟩, 49), (⟨"MarkedStepsModel", "goOn", "()V"⟩, 49), (⟨"MarkedStepsModel", "does", "(I)I"⟩, 49), (⟨"MarkedStepsModel", "makes", "(II)V"⟩, 49), (⟨"MarkedStepsModel", "same", "()I"⟩, 49), (⟨"MarkedStepsModel", "value", "(I)I"⟩, 49), (⟨"MarkedStepsModel", "goes", "(I)I"⟩, 49), (⟨"MarkedStepsModel", "branch", "()I"⟩, 49), (⟨"MarkedStepsModel", "against", "(II)I"⟩, 49), (⟨"MarkedStepsModel", "newRow", "()I"⟩, 49), (⟨"MarkedStepsModel", "newCell", "()I"⟩, 49), (⟨"MarkedStepsModel", "put", "()I"⟩, 49), (⟨"MarkedStepsModel", "get", "()I"⟩, 49), (⟨"MarkedStepsModel", "length", "()I"⟩, 49), (⟨"MarkedStepsModel", "field", "()I"⟩, 49)]
theorem lw_r6 : ∀ q ∈ lw_privs_6, lw_okq q := List.forall_mem_cons.mpr ⟨lw_p80, List.forall_mem_cons.mpr ⟨lw_p81, List.forall_mem_cons.mpr ⟨lw_p82, List.forall_mem_cons.mpr ⟨lw_p83, List.forall_mem_cons.mpr ⟨lw_p84, List.forall_mem_cons.mpr ⟨lw_p85, List.forall_mem_cons.mpr ⟨lw_p86, List.forall_mem_cons.mpr ⟨lw_p87, List.forall_mem_cons.mpr ⟨lw_p88, List.forall_mem_cons.mpr ⟨lw_p89, List.forall_mem_cons.mpr ⟨lw_p90, List.forall_mem_cons.mpr ⟨lw_p91, List.forall_mem_cons.mpr ⟨lw_p92, List.forall_mem_cons.mpr ⟨lw_p93, List.forall_mem_cons.mpr ⟨lw_p94, List.forall_mem_cons.mpr ⟨lw_p95, fun _ h => absurd h List.not_mem_nil⟩⟩⟩⟩⟩⟩⟩⟩⟩⟩⟩⟩⟩⟩⟩⟩
theorem lw_p96 : lw_okq (⟨"MarkedStepsModel", "fill", "()I"⟩, 49) := ⟨⟨by decide +kernel, by decide +kernel⟩, List.mem_of_getElem? (i := 798) (by decide +kernel), List.mem_of_getElem? (i := 1118) (by decide +kernel), List.mem_of_getElem? (i := 1119) (by decide +kernel)⟩
theorem lw_p97 : lw_okq (⟨"MarkedStepsModel", "isOf", "(III)Z"⟩, 49) := ⟨⟨by decide +kernel, by decide +kernel⟩, List.mem_of_getElem? (i := 798) (by decide +kernel), List.mem_of_getElem? (i := 1122) (by decide +kernel), List.mem_of_getElem? (i := 1123) (by decide +kernel)⟩
theorem lw_p98 : lw_okq (⟨"MarkedStepsModel", "kindOf", "(II)I"⟩, 49) := ⟨⟨by decide +kernel, by decide +kernel⟩, List.mem_of_getElem? (i := 798) (by decide +kernel), List.mem_of_getElem? (i := 1126) (by decide +kernel), List.mem_of_getElem? (i := 1127) (by decide +kernel)⟩
theorem lw_p99 : lw_okq (⟨"MarkedStepsModel", "monitor", "(Z)I"⟩, 49) := ⟨⟨by decide +kernel, by decide +kernel⟩, List.mem_of_getElem? (i := 798) (by decide +kernel), List.mem_of_getElem? (i := 1130) (by decide +kernel), List.mem_of_getElem? (i := 1131) (by decide +kernel)⟩
theorem lw_p100 : lw_okq (⟨"MarkedStepsModel", "call", "()I"⟩, 49) := ⟨⟨by decide +kernel, by decide +kernel⟩, List.mem_of_getElem? (i := 798) (by decide +kernel), List.mem_of_getElem? (i := 1134) (by decide +kernel), List.mem_of_getElem? (i := 1135) (by decide +kernel)⟩
theorem lw_p101 : lw_okq (⟨"MarkedStepsModel", "note", "()I"⟩, 49) := ⟨⟨by decide +kernel, by decide +kernel⟩, List.mem_of_getElem? (i := 798) (by decide +kernel), List.mem_of_getElem? (i := 1138) (by decide +kernel), List.mem_of_getElem? (i := 1139) (by decide +kernel)⟩
theorem lw_p102 : lw_okq (⟨"MarkedStepsModel", "ask", "()I"⟩, 49) := ⟨⟨by decide +kernel, by decide +kernel⟩, List.mem_of_getElem? (i := 798) (by decide +kernel), List.mem_of_getElem? (i := 1142) (by decide +kernel), List.mem_of_getElem? (i := 1143) (by decide +kernel)⟩
theorem lw_p103 : lw_okq (⟨"MarkedStepsModel", "weigh", "()I"⟩, 49) := ⟨⟨by decide +kernel, by decide +kernel⟩, List.mem_of_getElem? (i := 798) (by decide +kernel), List.mem_of_getElem? (i := 1146) (by decide +kernel), List.mem_of_getElem? (i := 1147) (by decide +kernel)⟩
theorem lw_p104 : lw_okq (⟨"MarkedStepsModel", "reckon", "(I)I"⟩, 49) := ⟨⟨by decide +kernel, by decide +kernel⟩, List.mem_of_getElem? (i := 798) (by decide +kernel), List.mem_of_getElem? (i := 1150) (by decide +kernel), List.mem_of_getElem? (i := 1151) (by decide +kernel)⟩
theorem lw_p105 : lw_okq (⟨"MarkedStepsModel", "againstBoth", "()I"⟩, 49) := ⟨⟨by decide +kernel, by decide +kernel⟩, List.mem_of_getElem? (i := 798) (by decide +kernel), List.mem_of_getElem? (i := 1154) (by decide +kernel), List.mem_of_getElem? (i := 1155) (by decide +kernel)⟩
theorem lw_p106 : lw_okq (⟨"MarkedStepsModel", "throwsIt", "(I)V"⟩, 49) := ⟨⟨by decide +kernel, by decide +kernel⟩, List.mem_of_getElem? (i := 798) (by decide +kernel), List.mem_of_getElem? (i := 1158) (by decide +kernel), List.mem_of_getElem? (i := 1159) (by decide +kernel)⟩
theorem lw_p107 : lw_okq (⟨"MarkedStepsModel", "toldOf", "(II)I"⟩, 49) := ⟨⟨by decide +kernel, by decide +kernel⟩, List.mem_of_getElem? (i := 798) (by decide +kernel), List.mem_of_getElem? (i := 1166) (by decide +kernel), List.mem_of_getElem? (i := 1167) (by decide +kernel)⟩
def lw_privs_7 : List (MethodName × Nat) := [(⟨"MarkedStepsModel", "fill", "()I"⟩, 49), (⟨"MarkedStepsModel", "isOf", "(III)Z"⟩, 49), (⟨"MarkedStepsModel", "kindOf", "(II)I"⟩, 49), (⟨"MarkedStepsModel", "monitor", "(Z)I"⟩, 49), (⟨"MarkedStepsModel", "call", "()I"⟩, 49), (⟨"MarkedStepsModel", "note", "()I"⟩, 49), (⟨"MarkedStepsModel", "ask", "()I"⟩, 49), (⟨"MarkedStepsModel", "weigh", "()I"⟩, 49), (⟨"MarkedStepsModel", "reckon", "(I)I"⟩, 49), (⟨"MarkedStepsModel", "againstBoth", "()I"⟩, 49), (⟨"MarkedStepsModel", "throwsIt", "(I)V"⟩, 49), (⟨"MarkedStepsModel", "toldOf", "(II)I"⟩, 49)]
theorem lw_r7 : ∀ q ∈ lw_privs_7, lw_okq q := List.forall_mem_cons.mpr ⟨lw_p96, List.forall_mem_cons.mpr ⟨lw_p97, List.forall_mem_cons.mpr ⟨lw_p98, List.forall_mem_cons.mpr ⟨lw_p99, List.forall_mem_cons.mpr ⟨lw_p100, List.forall_mem_cons.mpr ⟨lw_p101, List.forall_mem_cons.mpr ⟨lw_p102, List.forall_mem_cons.mpr ⟨lw_p103, List.forall_mem_cons.mpr ⟨lw_p104, List.forall_mem_cons.mpr ⟨lw_p105, List.forall_mem_cons.mpr ⟨lw_p106, List.forall_mem_cons.mpr ⟨lw_p107, fun _ h => absurd h List.not_mem_nil⟩⟩⟩⟩⟩⟩⟩⟩⟩⟩⟩⟩
def lw_privs : List (MethodName × Nat) := lw_privs_1 ++ (lw_privs_2 ++ (lw_privs_3 ++ (lw_privs_4 ++ (lw_privs_5 ++ (lw_privs_6 ++ (lw_privs_7))))))
def lw_tbl : List Cond := k2_sels lw_privs ++ tables_1
theorem lw_privs_ok : ∀ q ∈ lw_privs, lw_okq q := by
  show ∀ q ∈ lw_privs_1 ++ (lw_privs_2 ++ (lw_privs_3 ++ (lw_privs_4 ++ (lw_privs_5 ++ (lw_privs_6 ++ (lw_privs_7)))))), lw_okq q
  exact List.forall_mem_append.mpr ⟨lw_r1, List.forall_mem_append.mpr ⟨lw_r2, List.forall_mem_append.mpr ⟨lw_r3, List.forall_mem_append.mpr ⟨lw_r4, List.forall_mem_append.mpr ⟨lw_r5, List.forall_mem_append.mpr ⟨lw_r6, lw_r7⟩⟩⟩⟩⟩⟩
def RX0 : String := "MarkedSteps$Cell"
def TX0 : u_T := fun k => match k with
  | 0 => ("MarkedSteps$Cell", "sort", "I", true)
  | 1 => ("MarkedSteps$Cell", "next", "LMarkedSteps$Slot;", true)
  | 2 => ("MarkedSteps$Cell", "v", "I", false)
  | _ => ("MarkedSteps$Cell", "latestHold", "LMarkedSteps$Hold;", false)
def tyX0 : Nat → FieldType := fun k => match k with
  | 0 => .int
  | 1 => .object "MarkedSteps$Slot"
  | 2 => .int
  | _ => .object "MarkedSteps$Hold"
abbrev wsX00 : List Cond := u_ws RX0 TX0 4
theorem nmX0 : ∀ a, a < 4 → ∀ b, b < 4 → a ≠ b → (TX0 a).2.1 ≠ (TX0 b).2.1 := by decide +kernel
theorem tyX0_ok : ∀ k, k < 4 → parseFieldDescriptor (TX0 k).2.2.1 = some (tyX0 k) := by decide +kernel
abbrev cX0_init : ByteArray := prog_2_method_1_code
def yX0_init : MethodName := ⟨RX0, "<init>", "(I)V"⟩
abbrev cX0_otherMark : ByteArray := prog_2_method_2_code
def yX0_otherMark : MethodName := ⟨RX0, "otherMark", "()I"⟩
abbrev cX0_timesHeld : ByteArray := prog_2_method_3_code
def yX0_timesHeld : MethodName := ⟨RX0, "timesHeld", "()I"⟩
abbrev cX0_bodiesOfWeight : ByteArray := prog_2_method_4_code
def yX0_bodiesOfWeight : MethodName := ⟨RX0, "bodiesOfWeight", "()I"⟩
abbrev cX0_weight : ByteArray := prog_2_method_5_code
def yX0_weight : MethodName := ⟨RX0, "weight", "()I"⟩
def RX1 : String := "MarkedSteps$Frame"
def TX1 : u_T := fun k => match k with
  | 0 => ("MarkedSteps$Frame", "registers", "[LMarkedSteps$Slot;", true)
  | 1 => ("MarkedSteps$Frame", "given", "LMarkedSteps$Slot;", true)
  | 2 => ("MarkedSteps$Frame", "code", "LMarkedSteps$Member;", false)
  | 3 => ("MarkedSteps$Frame", "number", "I", false)
  | 4 => ("MarkedSteps$Frame", "at", "I", false)
  | 5 => ("MarkedSteps$Frame", "holds", "LMarkedSteps$Hold;", false)
  | _ => ("MarkedSteps$Frame", "holdings", "I", false)
def tyX1 : Nat → FieldType := fun k => match k with
  | 0 => .array (.object "MarkedSteps$Slot")
  | 1 => .object "MarkedSteps$Slot"
  | 2 => .object "MarkedSteps$Member"
  | 3 => .int
  | 4 => .int
  | 5 => .object "MarkedSteps$Hold"
  | _ => .int
abbrev wsX10 : List Cond := u_ws RX1 TX1 7
theorem nmX1 : ∀ a, a < 7 → ∀ b, b < 7 → a ≠ b → (TX1 a).2.1 ≠ (TX1 b).2.1 := by decide +kernel
theorem tyX1_ok : ∀ k, k < 7 → parseFieldDescriptor (TX1 k).2.2.1 = some (tyX1 k) := by decide +kernel
abbrev cX1_init : ByteArray := prog_3_method_1_code
def yX1_init : MethodName := ⟨RX1, "<init>", "(LMarkedSteps$Member;)V"⟩
abbrev cX1_begin : ByteArray := prog_3_method_2_code
def yX1_begin : MethodName := ⟨RX1, "begin", "(LMarkedSteps$Member;I[LMarkedSteps$Slot;I)V"⟩
abbrev cX1_named : ByteArray := prog_3_method_3_code
def yX1_named : MethodName := ⟨RX1, "named", "(I)LMarkedSteps$Slot;"⟩
abbrev cX1_isBehindItsActs : ByteArray := prog_3_method_4_code
def yX1_isBehindItsActs : MethodName := ⟨RX1, "isBehindItsActs", "()Z"⟩
abbrev cX1_give : ByteArray := prog_3_method_5_code
def yX1_give : MethodName := ⟨RX1, "give", "(LMarkedSteps$Slot;)V"⟩
abbrev cX1_takeGiven : ByteArray := prog_3_method_6_code
def yX1_takeGiven : MethodName := ⟨RX1, "takeGiven", "(LMarkedSteps$Slot;)V"⟩
def RX2 : String := "MarkedSteps$Hold"
def TX2 : u_T := fun k => match k with
  | 0 => ("MarkedSteps$Hold", "cell", "LMarkedSteps$Cell;", false)
  | 1 => ("MarkedSteps$Hold", "frame", "LMarkedSteps$Frame;", false)
  | 2 => ("MarkedSteps$Hold", "times", "I", false)
  | 3 => ("MarkedSteps$Hold", "under", "LMarkedSteps$Hold;", false)
  | _ => ("MarkedSteps$Hold", "beside", "LMarkedSteps$Hold;", false)
def tyX2 : Nat → FieldType := fun k => match k with
  | 0 => .object "MarkedSteps$Cell"
  | 1 => .object "MarkedSteps$Frame"
  | 2 => .int
  | 3 => .object "MarkedSteps$Hold"
  | _ => .object "MarkedSteps$Hold"
abbrev wsX20 : List Cond := u_ws RX2 TX2 5
theorem nmX2 : ∀ a, a < 5 → ∀ b, b < 5 → a ≠ b → (TX2 a).2.1 ≠ (TX2 b).2.1 := by decide +kernel
theorem tyX2_ok : ∀ k, k < 5 → parseFieldDescriptor (TX2 k).2.2.1 = some (tyX2 k) := by decide +kernel
abbrev cX2_init : ByteArray := prog_4_method_1_code
def yX2_init : MethodName := ⟨RX2, "<init>", "()V"⟩
def RX3 : String := "MarkedSteps$Machine"
def TX3 : u_T := fun k => match k with
  | 0 => ("MarkedSteps$Machine", "members", "[LMarkedSteps$Member;", true)
  | 1 => ("MarkedSteps$Machine", "memberCount", "I", false)
  | 2 => ("MarkedSteps$Machine", "purse", "LMarkedSteps$Purse;", true)
  | 3 => ("MarkedSteps$Machine", "monitors", "LMarkedSteps$Monitors;", true)
  | 4 => ("MarkedSteps$Machine", "plan", "[I", true)
  | 5 => ("MarkedSteps$Machine", "planAhead", "[I", true)
  | 6 => ("MarkedSteps$Machine", "frames", "[LMarkedSteps$Frame;", true)
  | 7 => ("MarkedSteps$Machine", "depth", "I", false)
  | 8 => ("MarkedSteps$Machine", "result", "LMarkedSteps$Slot;", true)
  | 9 => ("MarkedSteps$Machine", "thrownNumber", "I", false)
  | 10 => ("MarkedSteps$Machine", "traced", "[I", true)
  | 11 => ("MarkedSteps$Machine", "tracedCount", "I", false)
  | 12 => ("MarkedSteps$Machine", "begun", "I", false)
  | 13 => ("MarkedSteps$Machine", "stopped", "I", false)
  | 14 => ("MarkedSteps$Machine", "threw", "I", false)
  | _ => ("MarkedSteps$Machine", "gave", "I", false)
def tyX3 : Nat → FieldType := fun k => match k with
  | 0 => .array (.object "MarkedSteps$Member")
  | 1 => .int
  | 2 => .object "MarkedSteps$Purse"
  | 3 => .object "MarkedSteps$Monitors"
  | 4 => .array .int
  | 5 => .array .int
  | 6 => .array (.object "MarkedSteps$Frame")
  | 7 => .int
  | 8 => .object "MarkedSteps$Slot"
  | 9 => .int
  | 10 => .array .int
  | 11 => .int
  | 12 => .int
  | 13 => .int
  | 14 => .int
  | _ => .int
abbrev wsX30 : List Cond := u_ws RX3 TX3 16
theorem nmX3 : ∀ a, a < 16 → ∀ b, b < 16 → a ≠ b → (TX3 a).2.1 ≠ (TX3 b).2.1 := by decide +kernel
theorem tyX3_ok : ∀ k, k < 16 → parseFieldDescriptor (TX3 k).2.2.1 = some (tyX3 k) := by decide +kernel
abbrev cX3_init : ByteArray := prog_5_method_1_code
def yX3_init : MethodName := ⟨RX3, "<init>", "()V"⟩
abbrev cX3_lacksMember : ByteArray := prog_5_method_2_code
def yX3_lacksMember : MethodName := ⟨RX3, "lacksMember", "(I)Z"⟩
abbrev cX3_isWalked : ByteArray := prog_5_method_3_code
def yX3_isWalked : MethodName := ⟨RX3, "isWalked", "()Z"⟩
abbrev cX3_top : ByteArray := prog_5_method_4_code
def yX3_top : MethodName := ⟨RX3, "top", "()LMarkedSteps$Frame;"⟩
abbrev cX3_holdings : ByteArray := prog_5_method_5_code
def yX3_holdings : MethodName := ⟨RX3, "holdings", "()I"⟩
abbrev cX3_begin : ByteArray := prog_5_method_6_code
def yX3_begin : MethodName := ⟨RX3, "begin", "(II[LMarkedSteps$Slot;)I"⟩
abbrev cX3_doActs : ByteArray := prog_5_method_7_code
def yX3_doActs : MethodName := ⟨RX3, "doActs", "(I)I"⟩
abbrev cX3_doOneAct : ByteArray := prog_5_method_8_code
def yX3_doOneAct : MethodName := ⟨RX3, "doOneAct", "()I"⟩
abbrev cX3_beginFrame : ByteArray := prog_5_method_9_code
def yX3_beginFrame : MethodName := ⟨RX3, "beginFrame", "(I[LMarkedSteps$Slot;I)Z"⟩
abbrev cX3_endFrame : ByteArray := prog_5_method_10_code
def yX3_endFrame : MethodName := ⟨RX3, "endFrame", "()V"⟩
abbrev cX3_endFramesBehindTheirActs : ByteArray := prog_5_method_11_code
def yX3_endFramesBehindTheirActs : MethodName := ⟨RX3, "endFramesBehindTheirActs", "()I"⟩
abbrev cX3_goToHandler : ByteArray := prog_5_method_12_code
def yX3_goToHandler : MethodName := ⟨RX3, "goToHandler", "(I)I"⟩
abbrev cX3_beginHandler : ByteArray := prog_5_method_13_code
def yX3_beginHandler : MethodName := ⟨RX3, "beginHandler", "(LMarkedSteps$Frame;II)I"⟩
abbrev cX3_stop : ByteArray := prog_5_method_14_code
def yX3_stop : MethodName := ⟨RX3, "stop", "()I"⟩
abbrev cX3_keepTrace : ByteArray := prog_5_method_15_code
def yX3_keepTrace : MethodName := ⟨RX3, "keepTrace", "(I)V"⟩
abbrev cX3_perform : ByteArray := prog_5_method_16_code
def yX3_perform : MethodName := ⟨RX3, "perform", "(LMarkedSteps$Frame;)I"⟩
abbrev cX3_misfitAsNumbers : ByteArray := prog_5_method_17_code
def yX3_misfitAsNumbers : MethodName := ⟨RX3, "misfitAsNumbers", "(LMarkedSteps$Slot;LMarkedSteps$Slot;)I"⟩
abbrev cX3_reckon : ByteArray := prog_5_method_18_code
def yX3_reckon : MethodName := ⟨RX3, "reckon", "(ILMarkedSteps$Slot;LMarkedSteps$Slot;LMarkedSteps$Slot;)I"⟩
abbrev cX3_goTo : ByteArray := prog_5_method_19_code
def yX3_goTo : MethodName := ⟨RX3, "goTo", "(LMarkedSteps$Frame;I)I"⟩
abbrev cX3_branch : ByteArray := prog_5_method_20_code
def yX3_branch : MethodName := ⟨RX3, "branch", "(LMarkedSteps$Frame;LMarkedSteps$Slot;I)I"⟩
abbrev cX3_makeRow : ByteArray := prog_5_method_21_code
def yX3_makeRow : MethodName := ⟨RX3, "makeRow", "(LMarkedSteps$Slot;LMarkedSteps$Slot;I)I"⟩
abbrev cX3_makeCell : ByteArray := prog_5_method_22_code
def yX3_makeCell : MethodName := ⟨RX3, "makeCell", "(LMarkedSteps$Slot;I)I"⟩
abbrev cX3_put : ByteArray := prog_5_method_23_code
def yX3_put : MethodName := ⟨RX3, "put", "(LMarkedSteps$Slot;LMarkedSteps$Slot;LMarkedSteps$Slot;)I"⟩
abbrev cX3_get : ByteArray := prog_5_method_24_code
def yX3_get : MethodName := ⟨RX3, "get", "(LMarkedSteps$Slot;LMarkedSteps$Slot;LMarkedSteps$Slot;)I"⟩
abbrev cX3_length : ByteArray := prog_5_method_25_code
def yX3_length : MethodName := ⟨RX3, "length", "(LMarkedSteps$Slot;LMarkedSteps$Slot;)I"⟩
abbrev cX3_field : ByteArray := prog_5_method_26_code
def yX3_field : MethodName := ⟨RX3, "field", "(LMarkedSteps$Slot;LMarkedSteps$Slot;I)I"⟩
abbrev cX3_fill : ByteArray := prog_5_method_27_code
def yX3_fill : MethodName := ⟨RX3, "fill", "(LMarkedSteps$Slot;ILMarkedSteps$Slot;)I"⟩
abbrev cX3_enter : ByteArray := prog_5_method_28_code
def yX3_enter : MethodName := ⟨RX3, "enter", "(LMarkedSteps$Frame;LMarkedSteps$Slot;)I"⟩
abbrev cX3_leave : ByteArray := prog_5_method_29_code
def yX3_leave : MethodName := ⟨RX3, "leave", "(LMarkedSteps$Frame;LMarkedSteps$Slot;)I"⟩
abbrev cX3_throwOwn : ByteArray := prog_5_method_30_code
def yX3_throwOwn : MethodName := ⟨RX3, "throwOwn", "(LMarkedSteps$Slot;)I"⟩
abbrev cX3_call : ByteArray := prog_5_method_31_code
def yX3_call : MethodName := ⟨RX3, "call", "(LMarkedSteps$Frame;II)I"⟩
abbrev cX3_note : ByteArray := prog_5_method_32_code
def yX3_note : MethodName := ⟨RX3, "note", "(LMarkedSteps$Slot;LMarkedSteps$Slot;)I"⟩
abbrev cX3_ask : ByteArray := prog_5_method_33_code
def yX3_ask : MethodName := ⟨RX3, "ask", "(LMarkedSteps$Slot;LMarkedSteps$Slot;)I"⟩
abbrev cX3_weigh : ByteArray := prog_5_method_34_code
def yX3_weigh : MethodName := ⟨RX3, "weigh", "(LMarkedSteps$Slot;LMarkedSteps$Slot;)I"⟩
def RX4 : String := "MarkedSteps$Member"
def TX4 : u_T := fun k => match k with
  | 0 => ("MarkedSteps$Member", "wants", "I", false)
  | 1 => ("MarkedSteps$Member", "framesBegun", "I", false)
  | 2 => ("MarkedSteps$Member", "actCount", "I", false)
  | 3 => ("MarkedSteps$Member", "ops", "[I", true)
  | 4 => ("MarkedSteps$Member", "as", "[I", true)
  | 5 => ("MarkedSteps$Member", "bs", "[I", true)
  | 6 => ("MarkedSteps$Member", "cs", "[I", true)
  | 7 => ("MarkedSteps$Member", "handlerCount", "I", false)
  | 8 => ("MarkedSteps$Member", "froms", "[I", true)
  | 9 => ("MarkedSteps$Member", "tos", "[I", true)
  | 10 => ("MarkedSteps$Member", "kinds", "[I", true)
  | _ => ("MarkedSteps$Member", "ats", "[I", true)
def tyX4 : Nat → FieldType := fun k => match k with
  | 0 => .int
  | 1 => .int
  | 2 => .int
  | 3 => .array .int
  | 4 => .array .int
  | 5 => .array .int
  | 6 => .array .int
  | 7 => .int
  | 8 => .array .int
  | 9 => .array .int
  | 10 => .array .int
  | _ => .array .int
abbrev wsX40 : List Cond := u_ws RX4 TX4 12
theorem nmX4 : ∀ a, a < 12 → ∀ b, b < 12 → a ≠ b → (TX4 a).2.1 ≠ (TX4 b).2.1 := by decide +kernel
theorem tyX4_ok : ∀ k, k < 12 → parseFieldDescriptor (TX4 k).2.2.1 = some (tyX4 k) := by decide +kernel
abbrev cX4_init : ByteArray := prog_6_method_1_code
def yX4_init : MethodName := ⟨RX4, "<init>", "()V"⟩
abbrev cX4_addAct : ByteArray := prog_6_method_2_code
def yX4_addAct : MethodName := ⟨RX4, "addAct", "(IIII)I"⟩
abbrev cX4_addHandler : ByteArray := prog_6_method_3_code
def yX4_addHandler : MethodName := ⟨RX4, "addHandler", "(IIII)I"⟩
abbrev cX4_handlerHas : ByteArray := prog_6_method_4_code
def yX4_handlerHas : MethodName := ⟨RX4, "handlerHas", "(II)Z"⟩
abbrev cX4_firstHandlerOf : ByteArray := prog_6_method_5_code
def yX4_firstHandlerOf : MethodName := ⟨RX4, "firstHandlerOf", "(II)I"⟩
def RX5 : String := "MarkedSteps$Monitors"
def TX5 : u_T := fun k => match k with
  | _ => ("MarkedSteps$Monitors", "spare", "LMarkedSteps$Hold;", false)
def tyX5 : Nat → FieldType := fun k => match k with
  | _ => .object "MarkedSteps$Hold"
abbrev wsX50 : List Cond := u_ws RX5 TX5 1
theorem nmX5 : ∀ a, a < 1 → ∀ b, b < 1 → a ≠ b → (TX5 a).2.1 ≠ (TX5 b).2.1 := by decide +kernel
theorem tyX5_ok : ∀ k, k < 1 → parseFieldDescriptor (TX5 k).2.2.1 = some (tyX5 k) := by decide +kernel
abbrev cX5_init : ByteArray := prog_7_method_1_code
def yX5_init : MethodName := ⟨RX5, "<init>", "()V"⟩
abbrev cX5_enter : ByteArray := prog_7_method_2_code
def yX5_enter : MethodName := ⟨RX5, "enter", "(LMarkedSteps$Frame;LMarkedSteps$Cell;)V"⟩
abbrev cX5_leave : ByteArray := prog_7_method_3_code
def yX5_leave : MethodName := ⟨RX5, "leave", "(LMarkedSteps$Frame;LMarkedSteps$Cell;)Z"⟩
abbrev cX5_newHold : ByteArray := prog_7_method_4_code
def yX5_newHold : MethodName := ⟨RX5, "newHold", "(LMarkedSteps$Frame;LMarkedSteps$Cell;)LMarkedSteps$Hold;"⟩
abbrev cX5_leaveAll : ByteArray := prog_7_method_5_code
def yX5_leaveAll : MethodName := ⟨RX5, "leaveAll", "(LMarkedSteps$Frame;)V"⟩
def RX6 : String := "MarkedSteps$Purse"
def TX6 : u_T := fun k => match k with
  | 0 => ("MarkedSteps$Purse", "prices", "[I", true)
  | 1 => ("MarkedSteps$Purse", "counts", "[I", true)
  | 2 => ("MarkedSteps$Purse", "budget", "I", false)
  | _ => ("MarkedSteps$Purse", "house", "I", false)
def tyX6 : Nat → FieldType := fun k => match k with
  | 0 => .array .int
  | 1 => .array .int
  | 2 => .int
  | _ => .int
abbrev wsX60 : List Cond := u_ws RX6 TX6 4
theorem nmX6 : ∀ a, a < 4 → ∀ b, b < 4 → a ≠ b → (TX6 a).2.1 ≠ (TX6 b).2.1 := by decide +kernel
theorem tyX6_ok : ∀ k, k < 4 → parseFieldDescriptor (TX6 k).2.2.1 = some (tyX6 k) := by decide +kernel
abbrev cX6_init : ByteArray := prog_8_method_1_code
def yX6_init : MethodName := ⟨RX6, "<init>", "()V"⟩
abbrev cX6_open : ByteArray := prog_8_method_2_code
def yX6_open : MethodName := ⟨RX6, "open", "(I)V"⟩
abbrev cX6_takes : ByteArray := prog_8_method_3_code
def yX6_takes : MethodName := ⟨RX6, "takes", "(J)Z"⟩
abbrev cX6_paysFor : ByteArray := prog_8_method_4_code
def yX6_paysFor : MethodName := ⟨RX6, "paysFor", "(I)Z"⟩
abbrev cX6_paysForRow : ByteArray := prog_8_method_5_code
def yX6_paysForRow : MethodName := ⟨RX6, "paysForRow", "(I)Z"⟩
def RX7 : String := "MarkedSteps$Row"
def TX7 : u_T := fun k => match k with
  | 0 => ("MarkedSteps$Row", "lane", "I", true)
  | 1 => ("MarkedSteps$Row", "size", "I", true)
  | 2 => ("MarkedSteps$Row", "numbers", "[I", true)
  | _ => ("MarkedSteps$Row", "rows", "[LMarkedSteps$Row;", true)
def tyX7 : Nat → FieldType := fun k => match k with
  | 0 => .int
  | 1 => .int
  | 2 => .array .int
  | _ => .array (.object "MarkedSteps$Row")
abbrev wsX70 : List Cond := u_ws RX7 TX7 4
theorem nmX7 : ∀ a, a < 4 → ∀ b, b < 4 → a ≠ b → (TX7 a).2.1 ≠ (TX7 b).2.1 := by decide +kernel
theorem tyX7_ok : ∀ k, k < 4 → parseFieldDescriptor (TX7 k).2.2.1 = some (tyX7 k) := by decide +kernel
abbrev cX7_init : ByteArray := prog_9_method_1_code
def yX7_init : MethodName := ⟨RX7, "<init>", "(II)V"⟩
abbrev cX7_lacksCell : ByteArray := prog_9_method_2_code
def yX7_lacksCell : MethodName := ⟨RX7, "lacksCell", "(I)Z"⟩
abbrev cX7_narrowed : ByteArray := prog_9_method_3_code
def yX7_narrowed : MethodName := ⟨RX7, "narrowed", "(I)I"⟩
abbrev cX7_misfitInCell : ByteArray := prog_9_method_4_code
def yX7_misfitInCell : MethodName := ⟨RX7, "misfitInCell", "(LMarkedSteps$Slot;)I"⟩
abbrev cX7_copyFrom : ByteArray := prog_9_method_5_code
def yX7_copyFrom : MethodName := ⟨RX7, "copyFrom", "(LMarkedSteps$Slot;I)V"⟩
abbrev cX7_copyTo : ByteArray := prog_9_method_6_code
def yX7_copyTo : MethodName := ⟨RX7, "copyTo", "(LMarkedSteps$Slot;I)V"⟩
def RX8 : String := "MarkedSteps$Slot"
def TX8 : u_T := fun k => match k with
  | 0 => ("MarkedSteps$Slot", "kind", "I", false)
  | 1 => ("MarkedSteps$Slot", "number", "I", false)
  | 2 => ("MarkedSteps$Slot", "cell", "LMarkedSteps$Cell;", false)
  | _ => ("MarkedSteps$Slot", "row", "LMarkedSteps$Row;", false)
def tyX8 : Nat → FieldType := fun k => match k with
  | 0 => .int
  | 1 => .int
  | 2 => .object "MarkedSteps$Cell"
  | _ => .object "MarkedSteps$Row"
abbrev wsX80 : List Cond := u_ws RX8 TX8 4
theorem nmX8 : ∀ a, a < 4 → ∀ b, b < 4 → a ≠ b → (TX8 a).2.1 ≠ (TX8 b).2.1 := by decide +kernel
theorem tyX8_ok : ∀ k, k < 4 → parseFieldDescriptor (TX8 k).2.2.1 = some (tyX8 k) := by decide +kernel
abbrev cX8_init : ByteArray := prog_10_method_1_code
def yX8_init : MethodName := ⟨RX8, "<init>", "()V"⟩
abbrev cX8_becomeNothing : ByteArray := prog_10_method_2_code
def yX8_becomeNothing : MethodName := ⟨RX8, "becomeNothing", "()V"⟩
abbrev cX8_becomeNumber : ByteArray := prog_10_method_3_code
def yX8_becomeNumber : MethodName := ⟨RX8, "becomeNumber", "(I)V"⟩
abbrev cX8_becomeCell : ByteArray := prog_10_method_4_code
def yX8_becomeCell : MethodName := ⟨RX8, "becomeCell", "(LMarkedSteps$Cell;)V"⟩
abbrev cX8_becomeRow : ByteArray := prog_10_method_5_code
def yX8_becomeRow : MethodName := ⟨RX8, "becomeRow", "(LMarkedSteps$Row;)V"⟩
abbrev cX8_copy : ByteArray := prog_10_method_6_code
def yX8_copy : MethodName := ⟨RX8, "copy", "(LMarkedSteps$Slot;)V"⟩
abbrev cX8_isNothing : ByteArray := prog_10_method_7_code
def yX8_isNothing : MethodName := ⟨RX8, "isNothing", "()Z"⟩
abbrev cX8_isOf : ByteArray := prog_10_method_8_code
def yX8_isOf : MethodName := ⟨RX8, "isOf", "(I)Z"⟩
abbrev cX8_isSameAs : ByteArray := prog_10_method_9_code
def yX8_isSameAs : MethodName := ⟨RX8, "isSameAs", "(LMarkedSteps$Slot;)Z"⟩
abbrev cX8_measure : ByteArray := prog_10_method_10_code
def yX8_measure : MethodName := ⟨RX8, "measure", "()I"⟩
abbrev cX8_misfit : ByteArray := prog_10_method_11_code
def yX8_misfit : MethodName := ⟨RX8, "misfit", "()I"⟩
abbrev cX8_misfitAsNumber : ByteArray := prog_10_method_12_code
def yX8_misfitAsNumber : MethodName := ⟨RX8, "misfitAsNumber", "()I"⟩
def RX9 : String := "MarkedSteps$Verifier"
def TX9 : u_T := fun k => match k with
  | _ => ("MarkedSteps$Verifier", "made", "[I", true)
def tyX9 : Nat → FieldType := fun k => match k with
  | _ => .array .int
abbrev wsX90 : List Cond := u_ws RX9 TX9 1
theorem nmX9 : ∀ a, a < 1 → ∀ b, b < 1 → a ≠ b → (TX9 a).2.1 ≠ (TX9 b).2.1 := by decide +kernel
theorem tyX9_ok : ∀ k, k < 1 → parseFieldDescriptor (TX9 k).2.2.1 = some (tyX9 k) := by decide +kernel
abbrev cX9_init : ByteArray := prog_11_method_1_code
def yX9_init : MethodName := ⟨RX9, "<init>", "()V"⟩
abbrev cX9_leastActThatLooksAtUnset : ByteArray := prog_11_method_2_code
def yX9_leastActThatLooksAtUnset : MethodName := ⟨RX9, "leastActThatLooksAtUnset", "(LMarkedSteps$Machine;LMarkedSteps$Member;)I"⟩
abbrev cX9_passOver : ByteArray := prog_11_method_3_code
def yX9_passOver : MethodName := ⟨RX9, "passOver", "(LMarkedSteps$Member;)Z"⟩
abbrev cX9_goOn : ByteArray := prog_11_method_4_code
def yX9_goOn : MethodName := ⟨RX9, "goOn", "(LMarkedSteps$Member;I)Z"⟩
abbrev cX9_goToHandlers : ByteArray := prog_11_method_5_code
def yX9_goToHandlers : MethodName := ⟨RX9, "goToHandlers", "(LMarkedSteps$Member;I)Z"⟩
abbrev cX9_comeTo : ByteArray := prog_11_method_6_code
def yX9_comeTo : MethodName := ⟨RX9, "comeTo", "(LMarkedSteps$Member;II)Z"⟩
abbrev cX9_lookedAt : ByteArray := prog_11_method_7_code
def yX9_lookedAt : MethodName := ⟨RX9, "lookedAt", "(LMarkedSteps$Machine;LMarkedSteps$Member;I)I"⟩
abbrev cX9_passedOn : ByteArray := prog_11_method_8_code
def yX9_passedOn : MethodName := ⟨RX9, "passedOn", "(II)I"⟩
def RX10 : String := "MarkedSteps"
def TX10 : u_T := fun k => match k with
  | 0 => ("MarkedSteps", "machine", "LMarkedSteps$Machine;", true)
  | 1 => ("MarkedSteps", "verifier", "LMarkedSteps$Verifier;", true)
  | _ => ("MarkedSteps", "arguments", "[LMarkedSteps$Slot;", true)
def tyX10 : Nat → FieldType := fun k => match k with
  | 0 => .object "MarkedSteps$Machine"
  | 1 => .object "MarkedSteps$Verifier"
  | _ => .array (.object "MarkedSteps$Slot")
abbrev wsX100 : List Cond := u_ws RX10 TX10 3
theorem nmX10 : ∀ a, a < 3 → ∀ b, b < 3 → a ≠ b → (TX10 a).2.1 ≠ (TX10 b).2.1 := by decide +kernel
theorem tyX10_ok : ∀ k, k < 3 → parseFieldDescriptor (TX10 k).2.2.1 = some (tyX10 k) := by decide +kernel
abbrev cX10_init : ByteArray := prog_1_method_1_code
def yX10_init : MethodName := ⟨RX10, "<init>", "()V"⟩
abbrev cX10_member : ByteArray := prog_1_method_2_code
def yX10_member : MethodName := ⟨RX10, "member", "(I)I"⟩
abbrev cX10_act : ByteArray := prog_1_method_3_code
def yX10_act : MethodName := ⟨RX10, "act", "(IIIII)I"⟩
abbrev cX10_handler : ByteArray := prog_1_method_4_code
def yX10_handler : MethodName := ⟨RX10, "handler", "(IIIII)I"⟩
abbrev cX10_cut : ByteArray := prog_1_method_5_code
def yX10_cut : MethodName := ⟨RX10, "cut", "(I)I"⟩
abbrev cX10_price : ByteArray := prog_1_method_6_code
def yX10_price : MethodName := ⟨RX10, "price", "(II)I"⟩
abbrev cX10_verify : ByteArray := prog_1_method_7_code
def yX10_verify : MethodName := ⟨RX10, "verify", "(I)I"⟩
abbrev cX10_info : ByteArray := prog_1_method_8_code
def yX10_info : MethodName := ⟨RX10, "info", "(II)I"⟩
abbrev cX10_set : ByteArray := prog_1_method_9_code
def yX10_set : MethodName := ⟨RX10, "set", "(II)I"⟩
abbrev cX10_plan : ByteArray := prog_1_method_10_code
def yX10_plan : MethodName := ⟨RX10, "plan", "(I)I"⟩
abbrev cX10_argument : ByteArray := prog_1_method_11_code
def yX10_argument : MethodName := ⟨RX10, "argument", "(III)I"⟩
abbrev cX10_run : ByteArray := prog_1_method_12_code
def yX10_run : MethodName := ⟨RX10, "run", "(II)I"⟩
abbrev cX10_result : ByteArray := prog_1_method_13_code
def yX10_result : MethodName := ⟨RX10, "result", "(I)I"⟩
abbrev cX10_into : ByteArray := prog_1_method_14_code
def yX10_into : MethodName := ⟨RX10, "into", "(I)I"⟩
abbrev cX10_cell : ByteArray := prog_1_method_15_code
def yX10_cell : MethodName := ⟨RX10, "cell", "(I)I"⟩
abbrev cX10_counted : ByteArray := prog_1_method_16_code
def yX10_counted : MethodName := ⟨RX10, "counted", "(I)I"⟩
abbrev cX10_trace : ByteArray := prog_1_method_17_code
def yX10_trace : MethodName := ⟨RX10, "trace", "(I)I"⟩
abbrev cX10_left : ByteArray := prog_1_method_18_code
def yX10_left : MethodName := ⟨RX10, "left", "()I"⟩
abbrev cX10_walk : ByteArray := prog_1_method_19_code
def yX10_walk : MethodName := ⟨RX10, "walk", "(II)I"⟩
abbrev cX10_step : ByteArray := prog_1_method_20_code
def yX10_step : MethodName := ⟨RX10, "step", "(I)I"⟩
abbrev cX10_frame : ByteArray := prog_1_method_21_code
def yX10_frame : MethodName := ⟨RX10, "frame", "(I)I"⟩
abbrev cX10_register : ByteArray := prog_1_method_22_code
def yX10_register : MethodName := ⟨RX10, "register", "(II)I"⟩
abbrev cX10_drop : ByteArray := prog_1_method_23_code
def yX10_drop : MethodName := ⟨RX10, "drop", "()I"⟩
abbrev cX10_told : ByteArray := prog_1_method_24_code
def yX10_told : MethodName := ⟨RX10, "told", "(I)I"⟩
abbrev cX10_refusalToBegin : ByteArray := prog_1_method_25_code
def yX10_refusalToBegin : MethodName := ⟨RX10, "refusalToBegin", "(II)I"⟩
abbrev cX10_isOutside : ByteArray := prog_1_method_26_code
def yX10_isOutside : MethodName := ⟨RX10, "isOutside", "(III)Z"⟩
abbrev cX10_namesWrongRegister : ByteArray := prog_1_method_27_code
def yX10_namesWrongRegister : MethodName := ⟨RX10, "namesWrongRegister", "(IIII)Z"⟩
abbrev cX10_namesWrongNumber : ByteArray := prog_1_method_28_code
def yX10_namesWrongNumber : MethodName := ⟨RX10, "namesWrongNumber", "(IIII)Z"⟩
def RX11 : String := "MarkedStepsModel"
def TX11 : u_T := fun k => match k with
  | 0 => ("MarkedStepsModel", "members", "I", false)
  | 1 => ("MarkedStepsModel", "wanted", "[I", true)
  | 2 => ("MarkedStepsModel", "acts", "[I", true)
  | 3 => ("MarkedStepsModel", "code", "[I", true)
  | 4 => ("MarkedStepsModel", "handlers", "[I", true)
  | 5 => ("MarkedStepsModel", "catching", "[I", true)
  | 6 => ("MarkedStepsModel", "begun", "[I", true)
  | 7 => ("MarkedStepsModel", "price", "[I", true)
  | 8 => ("MarkedStepsModel", "isWalk", "Z", false)
  | 9 => ("MarkedStepsModel", "unset", "[I", true)
  | 10 => ("MarkedStepsModel", "spreads", "Z", false)
  | 11 => ("MarkedStepsModel", "plan", "[I", true)
  | 12 => ("MarkedStepsModel", "planWas", "[I", true)
  | 13 => ("MarkedStepsModel", "argKind", "[I", true)
  | 14 => ("MarkedStepsModel", "argValue", "[I", true)
  | 15 => ("MarkedStepsModel", "gaveKind", "I", false)
  | 16 => ("MarkedStepsModel", "gave", "I", false)
  | 17 => ("MarkedStepsModel", "cells", "I", false)
  | 18 => ("MarkedStepsModel", "sort", "[I", true)
  | 19 => ("MarkedStepsModel", "v", "[I", true)
  | 20 => ("MarkedStepsModel", "nextKind", "[I", true)
  | 21 => ("MarkedStepsModel", "nextValue", "[I", true)
  | 22 => ("MarkedStepsModel", "holdings", "[I", true)
  | 23 => ("MarkedStepsModel", "rows", "I", false)
  | 24 => ("MarkedStepsModel", "laneOf", "[I", true)
  | 25 => ("MarkedStepsModel", "begins", "[I", true)
  | 26 => ("MarkedStepsModel", "size", "[I", true)
  | 27 => ("MarkedStepsModel", "content", "[I", true)
  | 28 => ("MarkedStepsModel", "contents", "I", false)
  | 29 => ("MarkedStepsModel", "frames", "I", false)
  | 30 => ("MarkedStepsModel", "running", "[I", true)
  | 31 => ("MarkedStepsModel", "next", "[I", true)
  | 32 => ("MarkedStepsModel", "givesTo", "[I", true)
  | 33 => ("MarkedStepsModel", "regKind", "[I", true)
  | 34 => ("MarkedStepsModel", "regValue", "[I", true)
  | 35 => ("MarkedStepsModel", "holds", "[I", true)
  | 36 => ("MarkedStepsModel", "heldBy", "[I", true)
  | 37 => ("MarkedStepsModel", "budget", "I", false)
  | 38 => ("MarkedStepsModel", "left", "I", false)
  | 39 => ("MarkedStepsModel", "counted", "[I", true)
  | 40 => ("MarkedStepsModel", "trace", "[I", true)
  | 41 => ("MarkedStepsModel", "traced", "I", false)
  | 42 => ("MarkedStepsModel", "number", "I", false)
  | 43 => ("MarkedStepsModel", "told", "[I", true)
  | 44 => ("MarkedStepsModel", "over", "I", false)
  | 45 => ("MarkedStepsModel", "base", "I", false)
  | 46 => ("MarkedStepsModel", "a", "I", false)
  | 47 => ("MarkedStepsModel", "b", "I", false)
  | _ => ("MarkedStepsModel", "c", "I", false)
def tyX11 : Nat → FieldType := fun k => match k with
  | 0 => .int
  | 1 => .array .int
  | 2 => .array .int
  | 3 => .array .int
  | 4 => .array .int
  | 5 => .array .int
  | 6 => .array .int
  | 7 => .array .int
  | 8 => .boolean
  | 9 => .array .int
  | 10 => .boolean
  | 11 => .array .int
  | 12 => .array .int
  | 13 => .array .int
  | 14 => .array .int
  | 15 => .int
  | 16 => .int
  | 17 => .int
  | 18 => .array .int
  | 19 => .array .int
  | 20 => .array .int
  | 21 => .array .int
  | 22 => .array .int
  | 23 => .int
  | 24 => .array .int
  | 25 => .array .int
  | 26 => .array .int
  | 27 => .array .int
  | 28 => .int
  | 29 => .int
  | 30 => .array .int
  | 31 => .array .int
  | 32 => .array .int
  | 33 => .array .int
  | 34 => .array .int
  | 35 => .array .int
  | 36 => .array .int
  | 37 => .int
  | 38 => .int
  | 39 => .array .int
  | 40 => .array .int
  | 41 => .int
  | 42 => .int
  | 43 => .array .int
  | 44 => .int
  | 45 => .int
  | 46 => .int
  | 47 => .int
  | _ => .int
abbrev wsX110 : List Cond := u_ws RX11 TX11 49
theorem nmX11 : ∀ a, a < 49 → ∀ b, b < 49 → a ≠ b → (TX11 a).2.1 ≠ (TX11 b).2.1 := by decide +kernel
theorem tyX11_ok : ∀ k, k < 49 → parseFieldDescriptor (TX11 k).2.2.1 = some (tyX11 k) := by decide +kernel
abbrev cX11_init : ByteArray := prog_13_method_1_code
def yX11_init : MethodName := ⟨RX11, "<init>", "()V"⟩
abbrev cX11_in : ByteArray := prog_13_method_2_code
def yX11_in : MethodName := ⟨RX11, "in", "(III)Z"⟩
abbrev cX11_isMember : ByteArray := prog_13_method_3_code
def yX11_isMember : MethodName := ⟨RX11, "isMember", "(I)Z"⟩
abbrev cX11_member : ByteArray := prog_13_method_4_code
def yX11_member : MethodName := ⟨RX11, "member", "(I)I"⟩
abbrev cX11_named : ByteArray := prog_13_method_5_code
def yX11_named : MethodName := ⟨RX11, "named", "(I)I"⟩
abbrev cX11_isGood : ByteArray := prog_13_method_6_code
def yX11_isGood : MethodName := ⟨RX11, "isGood", "(IIII)Z"⟩
abbrev cX11_act : ByteArray := prog_13_method_7_code
def yX11_act : MethodName := ⟨RX11, "act", "(IIIII)I"⟩
abbrev cX11_handler : ByteArray := prog_13_method_8_code
def yX11_handler : MethodName := ⟨RX11, "handler", "(IIIII)I"⟩
abbrev cX11_cut : ByteArray := prog_13_method_9_code
def yX11_cut : MethodName := ⟨RX11, "cut", "(I)I"⟩
abbrev cX11_price : ByteArray := prog_13_method_10_code
def yX11_price : MethodName := ⟨RX11, "price", "(II)I"⟩
abbrev cX11_comes : ByteArray := prog_13_method_11_code
def yX11_comes : MethodName := ⟨RX11, "comes", "(II)V"⟩
abbrev cX11_looked : ByteArray := prog_13_method_12_code
def yX11_looked : MethodName := ⟨RX11, "looked", "(I)I"⟩
abbrev cX11_makes : ByteArray := prog_13_method_13_code
def yX11_makes : MethodName := ⟨RX11, "makes", "(I)I"⟩
abbrev cX11_spread : ByteArray := prog_13_method_14_code
def yX11_spread : MethodName := ⟨RX11, "spread", "(II)V"⟩
abbrev cX11_verify : ByteArray := prog_13_method_15_code
def yX11_verify : MethodName := ⟨RX11, "verify", "(I)I"⟩
abbrev cX11_info : ByteArray := prog_13_method_16_code
def yX11_info : MethodName := ⟨RX11, "info", "(II)I"⟩
abbrev cX11_set : ByteArray := prog_13_method_17_code
def yX11_set : MethodName := ⟨RX11, "set", "(II)I"⟩
abbrev cX11_plan : ByteArray := prog_13_method_18_code
def yX11_plan : MethodName := ⟨RX11, "plan", "(I)I"⟩
abbrev cX11_argument : ByteArray := prog_13_method_19_code
def yX11_argument : MethodName := ⟨RX11, "argument", "(III)I"⟩
abbrev cX11_kindOf : ByteArray := prog_13_method_20_code
def yX11_kindOf : MethodName := ⟨RX11, "kindOf", "(II)I"⟩
abbrev cX11_toldOf : ByteArray := prog_13_method_21_code
def yX11_toldOf : MethodName := ⟨RX11, "toldOf", "(II)I"⟩
abbrev cX11_isOf : ByteArray := prog_13_method_22_code
def yX11_isOf : MethodName := ⟨RX11, "isOf", "(III)Z"⟩
abbrev cX11_pays : ByteArray := prog_13_method_23_code
def yX11_pays : MethodName := ⟨RX11, "pays", "(J)Z"⟩
abbrev cX11_traces : ByteArray := prog_13_method_24_code
def yX11_traces : MethodName := ⟨RX11, "traces", "(I)V"⟩
abbrev cX11_release : ByteArray := prog_13_method_25_code
def yX11_release : MethodName := ⟨RX11, "release", "(I)V"⟩
abbrev cX11_begins : ByteArray := prog_13_method_26_code
def yX11_begins : MethodName := ⟨RX11, "begins", "(II)Z"⟩
abbrev cX11_stops : ByteArray := prog_13_method_27_code
def yX11_stops : MethodName := ⟨RX11, "stops", "()V"⟩
abbrev cX11_gives : ByteArray := prog_13_method_28_code
def yX11_gives : MethodName := ⟨RX11, "gives", "(II)V"⟩
abbrev cX11_throwsIt : ByteArray := prog_13_method_29_code
def yX11_throwsIt : MethodName := ⟨RX11, "throwsIt", "(I)V"⟩
abbrev cX11_makes_ : ByteArray := prog_13_method_30_code
def yX11_makes_ : MethodName := ⟨RX11, "makes", "(II)V"⟩
abbrev cX11_against : ByteArray := prog_13_method_31_code
def yX11_against : MethodName := ⟨RX11, "against", "(II)I"⟩
abbrev cX11_value : ByteArray := prog_13_method_32_code
def yX11_value : MethodName := ⟨RX11, "value", "(I)I"⟩
abbrev cX11_againstBoth : ByteArray := prog_13_method_33_code
def yX11_againstBoth : MethodName := ⟨RX11, "againstBoth", "()I"⟩
abbrev cX11_reckon : ByteArray := prog_13_method_34_code
def yX11_reckon : MethodName := ⟨RX11, "reckon", "(I)I"⟩
abbrev cX11_goes : ByteArray := prog_13_method_35_code
def yX11_goes : MethodName := ⟨RX11, "goes", "(I)I"⟩
abbrev cX11_newRow : ByteArray := prog_13_method_36_code
def yX11_newRow : MethodName := ⟨RX11, "newRow", "()I"⟩
abbrev cX11_newCell : ByteArray := prog_13_method_37_code
def yX11_newCell : MethodName := ⟨RX11, "newCell", "()I"⟩
abbrev cX11_cut_ : ByteArray := prog_13_method_38_code
def yX11_cut_ : MethodName := ⟨RX11, "cut", "(II)I"⟩
abbrev cX11_put : ByteArray := prog_13_method_39_code
def yX11_put : MethodName := ⟨RX11, "put", "()I"⟩
abbrev cX11_get : ByteArray := prog_13_method_40_code
def yX11_get : MethodName := ⟨RX11, "get", "()I"⟩
abbrev cX11_field : ByteArray := prog_13_method_41_code
def yX11_field : MethodName := ⟨RX11, "field", "()I"⟩
abbrev cX11_fill : ByteArray := prog_13_method_42_code
def yX11_fill : MethodName := ⟨RX11, "fill", "()I"⟩
abbrev cX11_monitor : ByteArray := prog_13_method_43_code
def yX11_monitor : MethodName := ⟨RX11, "monitor", "(Z)I"⟩
abbrev cX11_call : ByteArray := prog_13_method_44_code
def yX11_call : MethodName := ⟨RX11, "call", "()I"⟩
abbrev cX11_note : ByteArray := prog_13_method_45_code
def yX11_note : MethodName := ⟨RX11, "note", "()I"⟩
abbrev cX11_ask : ByteArray := prog_13_method_46_code
def yX11_ask : MethodName := ⟨RX11, "ask", "()I"⟩
abbrev cX11_weigh : ByteArray := prog_13_method_47_code
def yX11_weigh : MethodName := ⟨RX11, "weigh", "()I"⟩
abbrev cX11_same : ByteArray := prog_13_method_48_code
def yX11_same : MethodName := ⟨RX11, "same", "()I"⟩
abbrev cX11_branch : ByteArray := prog_13_method_49_code
def yX11_branch : MethodName := ⟨RX11, "branch", "()I"⟩
abbrev cX11_length : ByteArray := prog_13_method_50_code
def yX11_length : MethodName := ⟨RX11, "length", "()I"⟩
abbrev cX11_does : ByteArray := prog_13_method_51_code
def yX11_does : MethodName := ⟨RX11, "does", "(I)I"⟩
abbrev cX11_settle : ByteArray := prog_13_method_52_code
def yX11_settle : MethodName := ⟨RX11, "settle", "()V"⟩
abbrev cX11_goOn : ByteArray := prog_13_method_53_code
def yX11_goOn : MethodName := ⟨RX11, "goOn", "()V"⟩
abbrev cX11_start : ByteArray := prog_13_method_54_code
def yX11_start : MethodName := ⟨RX11, "start", "(II)V"⟩
abbrev cX11_run : ByteArray := prog_13_method_55_code
def yX11_run : MethodName := ⟨RX11, "run", "(II)I"⟩
abbrev cX11_result : ByteArray := prog_13_method_56_code
def yX11_result : MethodName := ⟨RX11, "result", "(I)I"⟩
abbrev cX11_into : ByteArray := prog_13_method_57_code
def yX11_into : MethodName := ⟨RX11, "into", "(I)I"⟩
abbrev cX11_cell : ByteArray := prog_13_method_58_code
def yX11_cell : MethodName := ⟨RX11, "cell", "(I)I"⟩
abbrev cX11_counted : ByteArray := prog_13_method_59_code
def yX11_counted : MethodName := ⟨RX11, "counted", "(I)I"⟩
abbrev cX11_trace : ByteArray := prog_13_method_60_code
def yX11_trace : MethodName := ⟨RX11, "trace", "(I)I"⟩
abbrev cX11_left : ByteArray := prog_13_method_61_code
def yX11_left : MethodName := ⟨RX11, "left", "()I"⟩
abbrev cX11_walk : ByteArray := prog_13_method_62_code
def yX11_walk : MethodName := ⟨RX11, "walk", "(II)I"⟩
abbrev cX11_step : ByteArray := prog_13_method_63_code
def yX11_step : MethodName := ⟨RX11, "step", "(I)I"⟩
abbrev cX11_frame : ByteArray := prog_13_method_64_code
def yX11_frame : MethodName := ⟨RX11, "frame", "(I)I"⟩
abbrev cX11_register : ByteArray := prog_13_method_65_code
def yX11_register : MethodName := ⟨RX11, "register", "(II)I"⟩
abbrev cX11_drop : ByteArray := prog_13_method_66_code
def yX11_drop : MethodName := ⟨RX11, "drop", "()I"⟩
abbrev cX11_told : ByteArray := prog_13_method_67_code
def yX11_told : MethodName := ⟨RX11, "told", "(I)I"⟩
end
section
/-! THE TABLES: by program out of the claim's own names and words. A method's number: 100 * its class + its place. -/
def tbF : Nat → List (Nat × (Nat × Nat × Bool) × Nat) := fun own => match own with
  | 0 => [(12, (0, 1, false), 30080), (18, (0, 0, false), 30078), (22, (0, 3, false), 30087), (26, (2, 2, true), 30177), (31, (2, 3, true), 30178), (34, (0, 2, false), 30083)]
  | 1 => [(11, (1, 0, false), 10164), (18, (1, 1, false), 10167), (22, (1, 2, false), 10169), (26, (1, 3, false), 10171), (30, (1, 4, false), 10173), (36, (4, 0, true), 10101), (45, (4, 2, true), 10108), (52, (4, 4, true), 10114)]
  | 3 => [(11, (3, 0, false), 10194), (20, (3, 2, false), 10199), (27, (3, 3, false), 10201), (31, (3, 4, false), 10202), (35, (3, 5, false), 10204), (40, (3, 6, false), 10205), (47, (3, 8, false), 10208), (51, (3, 10, false), 10211), (58, (3, 1, false), 10197), (62, (3, 7, false), 10206), (71, (1, 6, true), 10178), (74, (3, 12, false), 10215), (81, (3, 11, false), 10213), (119, (1, 4, true), 10174), (130, (4, 1, true), 10104), (133, (6, 1, true), 10040), (147, (1, 1, true), 10168), (160, (3, 15, false), 10221), (163, (1, 2, true), 10170), (174, (3, 14, false), 10219), (177, (1, 0, true), 10165), (181, (3, 9, false), 10210), (187, (4, 11, true), 10130), (190, (3, 13, false), 10217), (193, (4, 3, true), 10111), (196, (4, 5, true), 10118), (199, (4, 6, true), 10121), (202, (4, 4, true), 10115), (289, (8, 1, true), 10078), (312, (8, 3, true), 10085), (332, (7, 1, true), 30049), (335, (8, 2, true), 10081), (339, (0, 2, true), 30085), (342, (0, 1, true), 30082)]
  | 4 => [(9, (4, 3, false), 10109), (15, (4, 4, false), 10112), (18, (4, 5, false), 10116), (21, (4, 6, false), 10119), (24, (4, 8, false), 10125), (27, (4, 9, false), 10126), (30, (4, 10, false), 10127), (33, (4, 11, false), 10128), (36, (4, 2, false), 10105), (40, (4, 7, false), 10122)]
  | 5 => [(7, (0, 3, true), 30086), (13, (2, 1, true), 30175), (25, (2, 2, true), 30176), (29, (1, 6, true), 10177), (34, (5, 0, false), 10061), (38, (2, 4, true), 30180), (41, (2, 0, true), 30174), (45, (2, 3, true), 30179), (48, (1, 5, true), 10176)]
  | 6 => [(9, (6, 0, false), 10037), (15, (6, 1, false), 10039), (18, (6, 3, false), 10043), (22, (6, 2, false), 10042)]
  | 7 => [(9, (7, 0, false), 30044), (21, (7, 1, false), 30047), (24, (7, 2, false), 30050), (28, (7, 3, false), 30052), (43, (8, 0, true), 10074), (46, (8, 3, true), 10083), (50, (8, 1, true), 10077)]
  | 8 => [(9, (8, 0, false), 10073), (15, (8, 1, false), 10076), (18, (8, 2, false), 10079), (22, (8, 3, false), 10082), (29, (0, 0, true), 30079), (34, (7, 0, true), 30045), (43, (0, 2, true), 30084), (46, (7, 1, true), 30048)]
  | 9 => [(9, (9, 0, false), 20022), (15, (4, 0, true), 10100), (29, (4, 2, true), 10106), (43, (4, 3, true), 10110), (49, (4, 4, true), 10113), (52, (4, 5, true), 10117), (55, (4, 7, true), 10124), (62, (4, 11, true), 10129), (71, (4, 6, true), 10120), (74, (3, 0, true), 10196)]
  | 10 => [(10, (10, 0, false), 20028), (19, (10, 1, false), 20029), (25, (10, 2, false), 20030), (38, (3, 1, true), 10198), (42, (3, 0, true), 10195), (46, (4, 0, true), 10102), (62, (4, 2, true), 10107), (69, (4, 7, true), 10123), (75, (3, 2, true), 10200), (79, (6, 0, true), 10038), (89, (4, 1, true), 10103), (92, (3, 4, true), 10203), (102, (3, 8, true), 10209), (123, (8, 0, true), 10075), (130, (8, 2, true), 10080), (139, (0, 1, true), 30081), (142, (8, 3, true), 10084), (146, (7, 0, true), 30046), (158, (7, 2, true), 30051), (161, (6, 1, true), 10041), (164, (3, 11, true), 10214), (167, (3, 10, true), 10212), (170, (6, 3, true), 10044), (177, (3, 7, true), 10207), (180, (1, 3, true), 10172), (185, (1, 4, true), 10175), (191, (1, 0, true), 10166), (197, (3, 12, true), 10216), (200, (3, 13, true), 10218), (203, (3, 14, true), 10220), (206, (3, 15, true), 10222)]
  | 11 => [(7, (11, 1, false), 40085), (13, (11, 2, false), 40086), (16, (11, 3, false), 40087), (19, (11, 4, false), 40088), (22, (11, 5, false), 40089), (25, (11, 6, false), 40090), (28, (11, 7, false), 40091), (31, (11, 9, false), 40093), (34, (11, 11, false), 40095), (37, (11, 12, false), 40096), (40, (11, 13, false), 40097), (43, (11, 14, false), 40098), (46, (11, 18, false), 40102), (49, (11, 19, false), 40103), (52, (11, 20, false), 40104), (55, (11, 21, false), 40105), (58, (11, 22, false), 40106), (61, (11, 24, false), 40108), (64, (11, 25, false), 40109), (67, (11, 26, false), 40110), (70, (11, 27, false), 40111), (73, (11, 30, false), 40114), (76, (11, 31, false), 40115), (79, (11, 32, false), 40116), (82, (11, 33, false), 40117), (85, (11, 34, false), 40118), (88, (11, 35, false), 40119), (92, (11, 36, false), 40120), (95, (11, 39, false), 40123), (98, (11, 40, false), 40124), (101, (11, 43, false), 40127), (104, (11, 38, false), 40122), (108, (11, 0, false), 40084), (115, (11, 8, false), 40092), (131, (11, 10, false), 40094), (147, (11, 15, false), 40099), (150, (11, 16, false), 40100), (157, (11, 37, false), 40121), (160, (11, 41, false), 40125), (163, (11, 17, false), 40101), (174, (11, 29, false), 40113), (180, (11, 44, false), 40128), (186, (11, 42, false), 40126), (189, (11, 45, false), 40129), (192, (11, 46, false), 40130), (195, (11, 47, false), 40131), (201, (11, 48, false), 40132), (213, (11, 23, false), 40107), (216, (11, 28, false), 40112)]
  | _ => []
def tbS : Nat → List (Nat × (Nat × Bool) × Nat) := fun own => match own with
  | 9 => [(46, (3, true), 20107), (82, (2, true), 20123)]
  | 10 => [(209, (2, false), 20060), (212, (3, false), 20062)]
  | _ => []
def tbM : Nat → List (Nat × (Nat × Bool) × Nat) := fun own => match own with
  | 0 => [(3, (9000, false), 30075), (11, (800, true), 30077)]
  | 1 => [(3, (9000, false), 10160), (17, (800, true), 10163), (33, (801, true), 20189), (41, (805, true), 20190), (48, (103, false), 20222), (56, (102, false), 20223)]
  | 2 => [(1, (9000, false), 30173)]
  | 3 => [(3, (9000, false), 10028), (19, (600, true), 10033), (26, (500, true), 10057), (46, (800, true), 10069), (54, (400, true), 10096), (55, (100, true), 10157), (65, (9001, false), 20191), (77, (601, true), 20165), (84, (801, true), 20169), (87, (9002, false), 20170), (93, (308, false), 20173), (97, (310, false), 20198), (101, (313, false), 20228), (104, (307, false), 20237), (107, (303, false), 20202), (111, (315, false), 30001), (115, (311, false), 40000), (122, (603, true), 20177), (126, (101, true), 20185), (136, (314, false), 20194), (139, (504, true), 20214), (143, (103, true), 20206), (150, (309, false), 20210), (153, (105, true), 20218), (157, (805, true), 20227), (167, (404, true), 40004), (170, (312, false), 40009), (184, (802, true), 30006), (205, (102, true), 30005), (209, (808, true), 30007), (213, (318, false), 30011), (217, (319, false), 30015), (221, (320, false), 30027), (225, (321, false), 30066), (229, (322, false), 30101), (233, (323, false), 30127), (236, (324, false), 30137), (240, (325, false), 30140), (243, (326, false), 30147), (247, (807, true), 30150), (250, (806, true), 30155), (253, (327, false), 30156), (257, (328, false), 30192), (260, (329, false), 30200), (264, (330, false), 30204), (267, (104, true), 30209), (270, (331, false), 30213), (273, (332, false), 30221), (276, (333, false), 30225), (279, (317, false), 30237), (283, (811, true), 30019), (286, (316, false), 30217), (292, (604, true), 30031), (297, (700, true), 30037), (300, (804, true), 30062), (306, (0, true), 30072), (308, (803, true), 30097), (316, (810, true), 30104), (319, (703, true), 30105), (322, (701, true), 30114), (325, (704, true), 30118), (329, (705, true), 30130), (345, (1, true), 30143), (348, (501, true), 30160), (351, (502, true), 30196), (354, (301, false), 30208), (357, (1025, true), 30220), (361, (3, true), 30229), (364, (4, true), 30233)]
  | 4 => [(3, (9000, false), 10099), (43, (403, false), 40008)]
  | 5 => [(1, (9000, false), 10060), (19, (503, false), 30164), (37, (200, true), 30170)]
  | 6 => [(3, (9000, false), 10036), (25, (602, false), 20181)]
  | 7 => [(3, (9000, false), 30040), (15, (9001, false), 30041), (33, (811, true), 30109), (39, (806, true), 30110), (53, (702, false), 30122), (57, (802, true), 30134), (61, (801, true), 30135), (64, (804, true), 30136)]
  | 8 => [(3, (9000, false), 10072), (26, (801, false), 20148), (39, (806, false), 30154), (49, (810, false), 30023)]
  | 9 => [(3, (9000, false), 20021), (21, (905, false), 20095), (25, (902, false), 20099), (32, (906, false), 20116), (36, (903, false), 20103), (40, (904, false), 20108), (58, (403, true), 20112), (65, (301, true), 20119), (78, (907, false), 20120)]
  | 10 => [(1, (9000, false), 10020), (9, (300, true), 10025), (18, (900, true), 20018), (29, (800, true), 20027), (30, (1025, false), 20042), (34, (302, true), 20045), (51, (301, true), 20053), (55, (1026, false), 20057), (59, (1027, false), 20064), (65, (401, true), 20067), (72, (402, true), 20075), (85, (901, true), 20091), (95, (801, true), 20140), (98, (802, true), 20144), (106, (805, true), 20149), (110, (1024, false), 20157), (114, (305, true), 20161), (119, (306, true), 20233), (126, (809, true), 40017), (134, (2, true), 40021), (151, (701, true), 40029), (154, (705, true), 40030), (173, (303, true), 40059), (188, (304, true), 40060), (194, (313, true), 40072)]
  | 11 => [(1, (9000, false), 40082), (111, (1101, false), 40236), (119, (1104, false), 50010), (123, (1102, false), 50003), (127, (1105, false), 50007), (134, (1112, false), 50033), (137, (1110, false), 50037), (141, (1113, false), 50029), (144, (1111, false), 50041), (153, (1119, false), 50165), (166, (1122, false), 50073), (170, (1123, false), 50077), (177, (1124, false), 50085), (183, (1126, false), 50081), (198, (1130, false), 50125), (204, (1132, false), 50193), (208, (1131, false), 50113), (211, (1129, false), 50105), (220, (1137, false), 50141), (223, (1125, false), 50069), (226, (1134, false), 50117), (229, (1147, false), 50109), (232, (1148, false), 50121), (235, (1135, false), 50129), (238, (1136, false), 50133), (241, (1138, false), 50137), (244, (1139, false), 50145), (247, (1149, false), 50149), (250, (1140, false), 50153), (253, (1141, false), 50157), (256, (1121, false), 50161), (259, (1142, false), 50169), (263, (1143, false), 50173), (266, (1144, false), 50177), (269, (1145, false), 50181), (272, (1146, false), 50185), (275, (1133, false), 50189), (278, (1127, false), 50093), (281, (1150, false), 50101), (284, (1128, false), 50197), (287, (1151, false), 50089), (290, (1153, false), 50065), (293, (1152, false), 50097), (296, (1120, false), 50205)]
  | 12 => [(9, (1000, false), 10017), (12, (1100, false), 40079), (13, (1001, false), 20038), (17, (1103, false), 40232), (18, (1002, false), 20049), (22, (1106, false), 40239), (23, (1003, false), 20071), (26, (1107, false), 50013), (27, (1004, false), 20079), (30, (1108, false), 50017), (31, (1005, false), 20083), (35, (1109, false), 50021), (36, (1006, false), 20087), (39, (1114, false), 50025), (40, (1007, false), 20124), (43, (1115, false), 50045), (44, (1008, false), 20128), (47, (1116, false), 50049), (48, (1009, false), 20132), (51, (1117, false), 50053), (52, (1010, false), 20136), (56, (1118, false), 50057), (57, (1011, false), 20153), (60, (1154, false), 50061), (61, (1012, false), 40013), (64, (1155, false), 50201), (65, (1013, false), 40025), (68, (1156, false), 50209), (69, (1014, false), 40031), (72, (1157, false), 50213), (73, (1015, false), 40035), (76, (1158, false), 50217), (77, (1016, false), 40039), (80, (1159, false), 50221), (81, (1017, false), 40043), (85, (1160, false), 50225), (86, (1018, false), 40047), (89, (1161, false), 50229), (90, (1019, false), 40051), (93, (1162, false), 50233), (94, (1020, false), 40055), (97, (1163, false), 50237), (98, (1021, false), 40064), (101, (1164, false), 60001), (102, (1022, false), 40068), (105, (1165, false), 60005), (106, (1023, false), 40073), (109, (1166, false), 60009)]
  | _ => []
def tbK : Nat → List (Nat × Nat × Nat) := fun own => match own with
  | 0 => [(9, 8, 30076)]
  | 1 => [(9, 8, 10161)]
  | 3 => [(9, 4, 10029), (17, 6, 10031), (24, 5, 10055), (38, 1, 10065), (44, 8, 10067), (295, 7, 30035), (304, 0, 30070)]
  | 5 => [(14, 2, 30168)]
  | 7 => [(10, 7, 30042)]
  | 10 => [(7, 3, 10023), (16, 9, 20016), (23, 8, 20026)]
  | 12 => [(7, 10, 10015), (10, 11, 40077)]
  | _ => []
def tbC : Nat → List (Nat × Int32 × Nat) := fun own => match own with
  | 7 => [(32, 65535, 30126)]
  | 10 => [(118, 1000000, 20232)]
  | 11 => [(91, 72000, 40083), (219, 65535, 50144)]
  | _ => []
def lkF (own idx : Nat) : Option (Nat × Nat × Bool) := ((tbF own).find? (fun e => e.1 == idx)).map (fun e => e.2.1)
def lkS (own idx : Nat) : Option (Nat × Bool) := ((tbS own).find? (fun e => e.1 == idx)).map (fun e => e.2.1)
def lkM (own idx : Nat) : Option (Nat × Bool) := ((tbM own).find? (fun e => e.1 == idx)).map (fun e => e.2.1)
def lkK (own idx : Nat) : Option (Nat) := ((tbK own).find? (fun e => e.1 == idx)).map (fun e => e.2.1)
def lkC (own idx : Nat) : Option (Int32) := ((tbC own).find? (fun e => e.1 == idx)).map (fun e => e.2.1)
def cname : Nat → String := fun c => match c with
  | 0 => RX0
  | 1 => RX1
  | 2 => RX2
  | 3 => RX3
  | 4 => RX4
  | 5 => RX5
  | 6 => RX6
  | 7 => RX7
  | 8 => RX8
  | 9 => RX9
  | 10 => RX10
  | 11 => RX11
  | _ => "MarkedStepsLaw"
def fnum : Nat → Nat := fun c => match c with
  | 0 => 4
  | 1 => 7
  | 2 => 5
  | 3 => 16
  | 4 => 12
  | 5 => 1
  | 6 => 4
  | 7 => 4
  | 8 => 4
  | 9 => 1
  | 10 => 3
  | 11 => 49
  | _ => 0
def ftab : Nat → u_T := fun c => match c with
  | 0 => TX0
  | 1 => TX1
  | 2 => TX2
  | 3 => TX3
  | 4 => TX4
  | 5 => TX5
  | 6 => TX6
  | 7 => TX7
  | 8 => TX8
  | 9 => TX9
  | 10 => TX10
  | _ => TX11
def fty : Nat → Nat → FieldType := fun c => match c with
  | 0 => tyX0
  | 1 => tyX1
  | 2 => tyX2
  | 3 => tyX3
  | 4 => tyX4
  | 5 => tyX5
  | 6 => tyX6
  | 7 => tyX7
  | 8 => tyX8
  | 9 => tyX9
  | 10 => tyX10
  | _ => tyX11
def ffin (c k : Nat) : Bool := (ftab c k).2.2.2
/-- classes of which there are arrays: class, place of the word -/
def tbO : List (Nat × Nat) := [(1, 10066), (4, 10030), (7, 30043), (8, 10162)]
def lkO (ci : Nat) : Bool := tbO.any (fun e => e.1 == ci)
abbrev MRow : Type := ByteArray × Nat × Nat × Nat × Option FieldType × Nat × Nat × Bool × MethodName × Nat × Nat × Nat
def tbY0 : List MRow := [
  (cX0_init, 2, 2, 2, none, 2, 60, false, yX0_init, 30074, 30073, 0),
  (cX0_otherMark, 1, 0, 1, some .int, 1, 40, false, yX0_otherMark, 30146, 30145, 48),
  (cX0_timesHeld, 3, 0, 1, some .int, 1, 40, false, yX0_timesHeld, 40024, 40023, 67),
  (cX0_bodiesOfWeight, 1, 0, 1, some .int, 1, 40, false, yX0_bodiesOfWeight, 30232, 30231, 61),
  (cX0_weight, 3, 0, 1, some .int, 1, 40, false, yX0_weight, 30236, 30235, 62)]
def tbY1 : List MRow := [
  (cX1_init, 3, 2, 2, none, 2, 60, false, yX1_init, 10159, 10158, 0),
  (cX1_begin, 6, 0, 5, none, 2, 61, false, yX1_begin, 20188, 20187, 19),
  (cX1_named, 2, 0, 2, some (.object "MarkedSteps$Slot"), 1, 40, false, yX1_named, 20226, 20225, 27),
  (cX1_isBehindItsActs, 1, 0, 1, some .boolean, 1, 40, false, yX1_isBehindItsActs, 20209, 20208, 23),
  (cX1_give, 2, 0, 2, none, 2, 61, false, yX1_give, 30212, 30211, 57),
  (cX1_takeGiven, 2, 0, 2, none, 2, 61, false, yX1_takeGiven, 20221, 20220, 26)]
def tbY2 : List MRow := [
  (cX2_init, 1, 2, 1, none, 1, 40, false, yX2_init, 30172, 30171, 0)]
def tbY3 : List MRow := [
  (cX3_init, 2, 2, 1, none, 3, 82, false, yX3_init, 10027, 10026, 0),
  (cX3_lacksMember, 2, 0, 2, some .boolean, 1, 40, false, yX3_lacksMember, 20056, 20055, 1),
  (cX3_isWalked, 1, 0, 1, some .boolean, 1, 40, false, yX3_isWalked, 20048, 20047, 0),
  (cX3_top, 1, 0, 1, some (.object "MarkedSteps$Frame"), 1, 40, false, yX3_top, 20205, 20204, 22),
  (cX3_holdings, 3, 0, 1, some .int, 1, 40, false, yX3_holdings, 40063, 40062, 68),
  (cX3_begin, 4, 0, 4, some .int, 4, 110, false, yX3_begin, 20164, 20163, 14),
  (cX3_doActs, 4, 0, 2, some .int, 7, 183, false, yX3_doActs, 20236, 20235, 29),
  (cX3_doOneAct, 3, 0, 1, some .int, 6, 161, false, yX3_doOneAct, 30000, 20239, 30),
  (cX3_beginFrame, 5, 0, 4, some .boolean, 3, 86, false, yX3_beginFrame, 20176, 20175, 16),
  (cX3_endFrame, 2, 0, 1, none, 2, 63, false, yX3_endFrame, 20213, 20212, 24),
  (cX3_endFramesBehindTheirActs, 3, 0, 1, some .int, 3, 84, false, yX3_endFramesBehindTheirActs, 20201, 20200, 21),
  (cX3_goToHandler, 5, 0, 2, some .int, 4, 106, false, yX3_goToHandler, 40003, 40002, 63),
  (cX3_beginHandler, 4, 0, 4, some .int, 3, 83, false, yX3_beginHandler, 40012, 40011, 65),
  (cX3_stop, 2, 0, 1, some .int, 3, 84, false, yX3_stop, 20231, 20230, 28),
  (cX3_keepTrace, 2, 0, 2, none, 1, 40, false, yX3_keepTrace, 20197, 20196, 20),
  (cX3_perform, 9, 0, 2, some .int, 5, 133, false, yX3_perform, 30004, 30003, 31),
  (cX3_misfitAsNumbers, 3, 1, 2, some .int, 3, 80, false, yX3_misfitAsNumbers, 30219, 30218, 0),
  (cX3_reckon, 7, 1, 4, some .int, 4, 102, false, yX3_reckon, 30239, 30238, 0),
  (cX3_goTo, 3, 0, 3, some .int, 3, 83, false, yX3_goTo, 30014, 30013, 33),
  (cX3_branch, 5, 0, 4, some .int, 4, 105, false, yX3_branch, 30018, 30017, 34),
  (cX3_makeRow, 6, 0, 4, some .int, 3, 83, false, yX3_makeRow, 30030, 30029, 37),
  (cX3_makeCell, 3, 0, 3, some .int, 3, 83, false, yX3_makeCell, 30069, 30068, 40),
  (cX3_put, 5, 1, 3, some .int, 4, 101, false, yX3_put, 30103, 30102, 0),
  (cX3_get, 5, 1, 3, some .int, 4, 103, false, yX3_get, 30129, 30128, 0),
  (cX3_length, 3, 1, 2, some .int, 3, 81, false, yX3_length, 30139, 30138, 0),
  (cX3_field, 4, 1, 3, some .int, 3, 81, false, yX3_field, 30142, 30141, 0),
  (cX3_fill, 5, 1, 3, some .int, 3, 80, false, yX3_fill, 30149, 30148, 0),
  (cX3_enter, 4, 0, 3, some .int, 4, 106, false, yX3_enter, 30159, 30158, 50),
  (cX3_leave, 4, 0, 3, some .int, 2, 63, false, yX3_leave, 30195, 30194, 53),
  (cX3_throwOwn, 3, 0, 2, some .int, 3, 80, false, yX3_throwOwn, 30203, 30202, 55),
  (cX3_call, 4, 0, 4, some .int, 4, 110, false, yX3_call, 30207, 30206, 56),
  (cX3_note, 4, 0, 3, some .int, 4, 102, false, yX3_note, 30216, 30215, 58),
  (cX3_ask, 4, 0, 3, some .int, 3, 81, false, yX3_ask, 30224, 30223, 59),
  (cX3_weigh, 6, 0, 3, some .int, 3, 83, false, yX3_weigh, 30228, 30227, 60)]
def tbY4 : List MRow := [
  (cX4_init, 1, 2, 1, none, 1, 40, false, yX4_init, 10098, 10097, 0),
  (cX4_addAct, 5, 0, 5, some .int, 1, 40, false, yX4_addAct, 20070, 20069, 2),
  (cX4_addHandler, 5, 0, 5, some .int, 1, 40, false, yX4_addHandler, 20078, 20077, 3),
  (cX4_handlerHas, 3, 0, 3, some .boolean, 1, 40, false, yX4_handlerHas, 20115, 20114, 9),
  (cX4_firstHandlerOf, 4, 0, 3, some .int, 2, 62, false, yX4_firstHandlerOf, 40007, 40006, 64)]
def tbY5 : List MRow := [
  (cX5_init, 1, 2, 1, none, 1, 40, false, yX5_init, 10059, 10058, 0),
  (cX5_enter, 4, 0, 3, none, 3, 83, false, yX5_enter, 30163, 30162, 51),
  (cX5_leave, 4, 0, 3, some .boolean, 1, 40, false, yX5_leave, 30199, 30198, 54),
  (cX5_newHold, 4, 0, 3, some (.object "MarkedSteps$Hold"), 2, 60, false, yX5_newHold, 30167, 30166, 52),
  (cX5_leaveAll, 4, 0, 2, none, 1, 40, false, yX5_leaveAll, 20217, 20216, 25)]
def tbY6 : List MRow := [
  (cX6_init, 1, 2, 1, none, 1, 40, false, yX6_init, 10035, 10034, 0),
  (cX6_open, 3, 0, 2, none, 1, 40, false, yX6_open, 20168, 20167, 15),
  (cX6_takes, 3, 0, 2, some .boolean, 1, 40, true, yX6_takes, 20184, 20183, 18),
  (cX6_paysFor, 2, 0, 2, some .boolean, 2, 62, false, yX6_paysFor, 20180, 20179, 17),
  (cX6_paysForRow, 2, 0, 2, some .boolean, 2, 62, false, yX6_paysForRow, 30034, 30033, 38)]
def tbY7 : List MRow := [
  (cX7_init, 3, 2, 3, none, 1, 40, false, yX7_init, 30039, 30038, 0),
  (cX7_lacksCell, 2, 0, 2, some .boolean, 1, 40, false, yX7_lacksCell, 30117, 30116, 44),
  (cX7_narrowed, 2, 0, 2, some .int, 1, 40, false, yX7_narrowed, 30125, 30124, 46),
  (cX7_misfitInCell, 2, 0, 2, some .int, 3, 80, false, yX7_misfitInCell, 30108, 30107, 42),
  (cX7_copyFrom, 3, 0, 3, none, 2, 61, false, yX7_copyFrom, 30121, 30120, 45),
  (cX7_copyTo, 3, 0, 3, none, 3, 81, false, yX7_copyTo, 30133, 30132, 47)]
def tbY8 : List MRow := [
  (cX8_init, 1, 2, 1, none, 1, 40, false, yX8_init, 10071, 10070, 0),
  (cX8_becomeNothing, 1, 0, 1, none, 1, 40, false, yX8_becomeNothing, 20143, 20142, 10),
  (cX8_becomeNumber, 2, 0, 2, none, 2, 60, false, yX8_becomeNumber, 20147, 20146, 11),
  (cX8_becomeCell, 2, 0, 2, none, 2, 60, false, yX8_becomeCell, 30100, 30099, 41),
  (cX8_becomeRow, 2, 0, 2, none, 2, 60, false, yX8_becomeRow, 30065, 30064, 39),
  (cX8_copy, 2, 0, 2, none, 1, 40, false, yX8_copy, 20152, 20151, 12),
  (cX8_isNothing, 1, 0, 1, some .boolean, 1, 40, false, yX8_isNothing, 30113, 30112, 43),
  (cX8_isOf, 2, 0, 2, some .boolean, 2, 60, false, yX8_isOf, 30153, 30152, 49),
  (cX8_isSameAs, 2, 0, 2, some .boolean, 1, 40, false, yX8_isSameAs, 30010, 30009, 32),
  (cX8_measure, 1, 0, 1, some .int, 1, 40, false, yX8_measure, 40020, 40019, 66),
  (cX8_misfit, 1, 0, 1, some .int, 1, 40, false, yX8_misfit, 30026, 30025, 36),
  (cX8_misfitAsNumber, 1, 0, 1, some .int, 2, 60, false, yX8_misfitAsNumber, 30022, 30021, 35)]
def tbY9 : List MRow := [
  (cX9_init, 1, 2, 1, none, 1, 40, false, yX9_init, 20020, 20019, 0),
  (cX9_leastActThatLooksAtUnset, 5, 0, 3, some .int, 4, 111, false, yX9_leastActThatLooksAtUnset, 20094, 20093, 4),
  (cX9_passOver, 4, 0, 2, some .boolean, 3, 88, false, yX9_passOver, 20102, 20101, 6),
  (cX9_goOn, 5, 0, 3, some .boolean, 2, 64, false, yX9_goOn, 20106, 20105, 7),
  (cX9_goToHandlers, 5, 0, 3, some .boolean, 2, 64, false, yX9_goToHandlers, 20111, 20110, 8),
  (cX9_comeTo, 5, 0, 4, some .boolean, 1, 40, false, yX9_comeTo, 20098, 20097, 5),
  (cX9_lookedAt, 5, 1, 3, some .int, 2, 62, false, yX9_lookedAt, 20118, 20117, 0),
  (cX9_passedOn, 3, 1, 2, some .int, 1, 40, false, yX9_passedOn, 20122, 20121, 0)]
def tbY10 : List MRow := [
  (cX10_init, 2, 2, 1, none, 4, 103, false, yX10_init, 10019, 10018, 0),
  (cX10_member, 3, 0, 2, some .int, 2, 62, false, yX10_member, 20041, 20039, 20040),
  (cX10_act, 7, 0, 6, some .int, 3, 86, false, yX10_act, 20052, 20050, 20051),
  (cX10_handler, 7, 0, 6, some .int, 2, 64, false, yX10_handler, 20074, 20072, 20073),
  (cX10_cut, 3, 0, 2, some .int, 2, 61, false, yX10_cut, 20082, 20080, 20081),
  (cX10_price, 4, 0, 3, some .int, 2, 62, false, yX10_price, 20086, 20084, 20085),
  (cX10_verify, 2, 0, 2, some .int, 5, 135, false, yX10_verify, 20090, 20088, 20089),
  (cX10_info, 4, 0, 3, some .int, 2, 61, false, yX10_info, 20127, 20125, 20126),
  (cX10_set, 4, 0, 3, some .int, 2, 62, false, yX10_set, 20131, 20129, 20130),
  (cX10_plan, 2, 0, 2, some .int, 2, 62, false, yX10_plan, 20135, 20133, 20134),
  (cX10_argument, 4, 0, 4, some .int, 3, 81, false, yX10_argument, 20139, 20137, 20138),
  (cX10_run, 5, 0, 3, some .int, 8, 206, false, yX10_run, 20156, 20154, 20155),
  (cX10_result, 3, 0, 2, some .int, 2, 62, false, yX10_result, 40016, 40014, 40015),
  (cX10_into, 5, 0, 2, some .int, 4, 103, false, yX10_into, 40028, 40026, 40027),
  (cX10_cell, 3, 0, 2, some .int, 2, 61, false, yX10_cell, 40034, 40032, 40033),
  (cX10_counted, 2, 0, 2, some .int, 2, 62, false, yX10_counted, 40038, 40036, 40037),
  (cX10_trace, 2, 0, 2, some .int, 1, 40, false, yX10_trace, 40042, 40040, 40041),
  (cX10_left, 1, 0, 1, some .int, 1, 40, false, yX10_left, 40046, 40044, 40045),
  (cX10_walk, 4, 0, 3, some .int, 5, 133, false, yX10_walk, 40050, 40048, 40049),
  (cX10_step, 2, 0, 2, some .int, 8, 206, false, yX10_step, 40054, 40052, 40053),
  (cX10_frame, 3, 0, 2, some .int, 2, 62, false, yX10_frame, 40058, 40056, 40057),
  (cX10_register, 4, 0, 3, some .int, 2, 62, false, yX10_register, 40067, 40065, 40066),
  (cX10_drop, 1, 0, 1, some .int, 4, 105, false, yX10_drop, 40071, 40069, 40070),
  (cX10_told, 2, 0, 2, some .int, 2, 60, false, yX10_told, 40076, 40074, 40075),
  (cX10_refusalToBegin, 3, 0, 3, some .int, 2, 62, false, yX10_refusalToBegin, 20160, 20159, 13),
  (cX10_isOutside, 3, 1, 3, some .boolean, 1, 40, false, yX10_isOutside, 20044, 20043, 0),
  (cX10_namesWrongRegister, 5, 1, 4, some .boolean, 2, 62, false, yX10_namesWrongRegister, 20059, 20058, 0),
  (cX10_namesWrongNumber, 4, 1, 4, some .boolean, 2, 62, false, yX10_namesWrongNumber, 20066, 20065, 0)]
def tbY11 : List MRow := [
  (cX11_init, 2, 2, 1, none, 1, 40, false, yX11_init, 40081, 40080, 0),
  (cX11_in, 3, 1, 3, some .boolean, 1, 40, false, yX11_in, 40238, 40237, 0),
  (cX11_isMember, 2, 0, 2, some .boolean, 2, 62, false, yX11_isMember, 50006, 50005, 69),
  (cX11_member, 2, 0, 2, some .int, 2, 62, false, yX11_member, 40235, 40233, 40234),
  (cX11_named, 1, 1, 1, some .int, 1, 40, false, yX11_named, 50012, 50011, 0),
  (cX11_isGood, 5, 1, 4, some .boolean, 2, 62, false, yX11_isGood, 50009, 50008, 0),
  (cX11_act, 7, 0, 6, some .int, 3, 86, false, yX11_act, 50002, 50000, 50001),
  (cX11_handler, 7, 0, 6, some .int, 3, 83, false, yX11_handler, 50016, 50014, 50015),
  (cX11_cut, 2, 0, 2, some .int, 3, 83, false, yX11_cut, 50020, 50018, 50019),
  (cX11_price, 4, 0, 3, some .int, 2, 62, false, yX11_price, 50024, 50022, 50023),
  (cX11_comes, 3, 0, 3, none, 1, 40, false, yX11_comes, 50040, 50039, 72),
  (cX11_looked, 9, 0, 2, some .int, 3, 83, false, yX11_looked, 50044, 50043, 73),
  (cX11_makes, 4, 0, 2, some .int, 1, 40, false, yX11_makes, 50036, 50035, 71),
  (cX11_spread, 8, 0, 3, none, 2, 63, false, yX11_spread, 50032, 50031, 70),
  (cX11_verify, 3, 0, 2, some .int, 4, 111, false, yX11_verify, 50028, 50026, 50027),
  (cX11_info, 3, 0, 3, some .int, 3, 83, false, yX11_info, 50048, 50046, 50047),
  (cX11_set, 4, 0, 3, some .int, 2, 62, false, yX11_set, 50052, 50050, 50051),
  (cX11_plan, 2, 0, 2, some .int, 2, 62, false, yX11_plan, 50056, 50054, 50055),
  (cX11_argument, 4, 0, 4, some .int, 2, 62, false, yX11_argument, 50060, 50058, 50059),
  (cX11_kindOf, 3, 0, 3, some .int, 1, 40, false, yX11_kindOf, 50168, 50167, 98),
  (cX11_toldOf, 3, 0, 3, some .int, 1, 40, false, yX11_toldOf, 50208, 50207, 107),
  (cX11_isOf, 5, 0, 4, some .boolean, 2, 62, false, yX11_isOf, 50164, 50163, 97),
  (cX11_pays, 3, 0, 2, some .boolean, 1, 40, true, yX11_pays, 50076, 50075, 76),
  (cX11_traces, 2, 0, 2, none, 1, 40, false, yX11_traces, 50080, 50079, 77),
  (cX11_release, 3, 0, 2, none, 1, 40, false, yX11_release, 50088, 50087, 79),
  (cX11_begins, 3, 0, 3, some .boolean, 2, 62, false, yX11_begins, 50072, 50071, 75),
  (cX11_stops, 2, 0, 1, none, 2, 62, false, yX11_stops, 50084, 50083, 78),
  (cX11_gives, 4, 0, 3, none, 2, 62, false, yX11_gives, 50096, 50095, 81),
  (cX11_throwsIt, 5, 0, 2, none, 3, 83, false, yX11_throwsIt, 50200, 50199, 106),
  (cX11_makes_, 3, 0, 3, none, 1, 40, false, yX11_makes_, 50108, 50107, 84),
  (cX11_against, 3, 0, 3, some .int, 1, 40, false, yX11_against, 50128, 50127, 89),
  (cX11_value, 2, 0, 2, some .int, 1, 40, false, yX11_value, 50116, 50115, 86),
  (cX11_againstBoth, 2, 0, 1, some .int, 2, 62, false, yX11_againstBoth, 50196, 50195, 105),
  (cX11_reckon, 5, 0, 2, some .int, 3, 83, false, yX11_reckon, 50192, 50191, 104),
  (cX11_goes, 3, 0, 2, some .int, 2, 62, false, yX11_goes, 50120, 50119, 87),
  (cX11_newRow, 3, 0, 1, some .int, 2, 62, false, yX11_newRow, 50132, 50131, 90),
  (cX11_newCell, 1, 0, 1, some .int, 2, 62, false, yX11_newCell, 50136, 50135, 91),
  (cX11_cut_, 2, 1, 2, some .int, 1, 40, false, yX11_cut_, 50143, 50142, 0),
  (cX11_put, 3, 0, 1, some .int, 2, 62, false, yX11_put, 50140, 50139, 92),
  (cX11_get, 4, 0, 1, some .int, 2, 62, false, yX11_get, 50148, 50147, 93),
  (cX11_field, 3, 0, 1, some .int, 2, 62, false, yX11_field, 50156, 50155, 95),
  (cX11_fill, 3, 0, 1, some .int, 2, 62, false, yX11_fill, 50160, 50159, 96),
  (cX11_monitor, 6, 0, 2, some .int, 2, 62, false, yX11_monitor, 50172, 50171, 99),
  (cX11_call, 4, 0, 1, some .int, 3, 84, false, yX11_call, 50176, 50175, 100),
  (cX11_note, 2, 0, 1, some .int, 2, 62, false, yX11_note, 50180, 50179, 101),
  (cX11_ask, 2, 0, 1, some .int, 2, 62, false, yX11_ask, 50184, 50183, 102),
  (cX11_weigh, 5, 0, 1, some .int, 2, 62, false, yX11_weigh, 50188, 50187, 103),
  (cX11_same, 2, 0, 1, some .int, 2, 62, false, yX11_same, 50112, 50111, 85),
  (cX11_branch, 2, 0, 1, some .int, 3, 84, false, yX11_branch, 50124, 50123, 88),
  (cX11_length, 2, 0, 1, some .int, 2, 62, false, yX11_length, 50152, 50151, 94),
  (cX11_does, 3, 0, 2, some .int, 4, 107, false, yX11_does, 50104, 50103, 83),
  (cX11_settle, 1, 0, 1, none, 3, 85, false, yX11_settle, 50092, 50091, 80),
  (cX11_goOn, 4, 0, 1, none, 5, 129, false, yX11_goOn, 50100, 50099, 82),
  (cX11_start, 4, 0, 3, none, 4, 105, false, yX11_start, 50068, 50067, 74),
  (cX11_run, 3, 0, 3, some .int, 6, 152, false, yX11_run, 50064, 50062, 50063),
  (cX11_result, 2, 0, 2, some .int, 2, 62, false, yX11_result, 50204, 50202, 50203),
  (cX11_into, 3, 0, 2, some .int, 2, 62, false, yX11_into, 50212, 50210, 50211),
  (cX11_cell, 2, 0, 2, some .int, 2, 62, false, yX11_cell, 50216, 50214, 50215),
  (cX11_counted, 2, 0, 2, some .int, 2, 62, false, yX11_counted, 50220, 50218, 50219),
  (cX11_trace, 2, 0, 2, some .int, 2, 62, false, yX11_trace, 50224, 50222, 50223),
  (cX11_left, 1, 0, 1, some .int, 1, 40, false, yX11_left, 50228, 50226, 50227),
  (cX11_walk, 3, 0, 3, some .int, 5, 128, false, yX11_walk, 50232, 50230, 50231),
  (cX11_step, 3, 0, 2, some .int, 6, 152, false, yX11_step, 50236, 50234, 50235),
  (cX11_frame, 4, 0, 2, some .int, 2, 62, false, yX11_frame, 60000, 50238, 50239),
  (cX11_register, 4, 0, 3, some .int, 2, 62, false, yX11_register, 60004, 60002, 60003),
  (cX11_drop, 1, 0, 1, some .int, 3, 83, false, yX11_drop, 60008, 60006, 60007),
  (cX11_told, 2, 0, 2, some .int, 2, 62, false, yX11_told, 60012, 60010, 60011)]
def tbY12 : List MRow := [
  (code, 4, 1, 1, some .boolean, 9, 230, false, ⟨"MarkedStepsLaw", "law", "([I)Z"⟩, 0, 0, 0)]
def tbY : Nat → List MRow := fun c => match c with
  | 0 => tbY0
  | 1 => tbY1
  | 2 => tbY2
  | 3 => tbY3
  | 4 => tbY4
  | 5 => tbY5
  | 6 => tbY6
  | 7 => tbY7
  | 8 => tbY8
  | 9 => tbY9
  | 10 => tbY10
  | 11 => tbY11
  | 12 => tbY12
  | _ => []
def mrow (m : Nat) : MRow := (tbY (m / 100)).getD (m % 100) (⟨#[]⟩, 0, 9, 0, none, 0, 0, true, ⟨"", "", ""⟩, 0, 0, 0)
def mcl (m : Nat) : Nat := m / 100
def mb (m : Nat) : ByteArray := (mrow m).1
def mxl (m : Nat) : Nat := (mrow m).2.1
def mkd (m : Nat) : Nat := (mrow m).2.2.1
def mnp (m : Nat) : Nat := (mrow m).2.2.2.1
def mret (m : Nat) : Option FieldType := (mrow m).2.2.2.2.1
def mrf (m : Nat) : Nat := (mrow m).2.2.2.2.2.1
def mrl (m : Nat) : Nat := (mrow m).2.2.2.2.2.2.1
def mlong (m : Nat) : Bool := (mrow m).2.2.2.2.2.2.2.1
def my (m : Nat) : MethodName := (mrow m).2.2.2.2.2.2.2.2.1
/-- who is called must be an object of the method's own class -/
def rcv (m : Nat) (as : List Value) (k : Nat → Nat) : Bool := match mkd m == 1 with
  | true => true
  | false => match as with
    | .ref a :: _ => k a == mcl m + 1
    | _ => false
def mini (m : Nat) : Bool := mkd m == 2
def mrra (m : Nat) : Bool := match mret m with
  | some (.object _) => true
  | some (.array _) => true
  | _ => false
end
section
/-! THE PURE MACHINE: a flat heap of numbers, and a bytecode interpreter over it.
Values: .int, .long, .ref a (a = 0: null; 0 < a < 4: an array that was there before; 4 ≤ a: a cell that was made), .retAddr 0: a local that isn't set.
Heap: next address, slots used, tags, lengths, ints, references. Tags: ci + 1 an object of class ci; 99 an int array of before; 100 an int array; 200 + ci an array of references to objects of class ci. -/
abbrev HP : Type := Nat × Nat × (Nat → Nat) × (Nat → Nat) × (Nat → Nat → Int32) × (Nat → Nat → Nat)
def hp_n (h : HP) : Nat := h.1
def hp_s (h : HP) : Nat := h.2.1
def hp_k (h : HP) : Nat → Nat := h.2.2.1
def hp_l (h : HP) : Nat → Nat := h.2.2.2.1
def hp_i (h : HP) : Nat → Nat → Int32 := h.2.2.2.2.1
def hp_a (h : HP) : Nat → Nat → Nat := h.2.2.2.2.2
def hp_u {α : Type} (f : Nat → Nat → α) (a k : Nat) (v : α) : Nat → Nat → α := fun b j => if b = a ∧ j = k then v else f b j
def hp_wi (h : HP) (a k : Nat) (v : Int32) : HP := (hp_n h, hp_s h, hp_k h, hp_l h, hp_u (hp_i h) a k v, hp_a h)
def hp_wa (h : HP) (a k : Nat) (v : Nat) : HP := (hp_n h, hp_s h, hp_k h, hp_l h, hp_i h, hp_u (hp_a h) a k v)
/-- a new cell of tag t, of length n, of s slots -/
def hp_mk (h : HP) (t n s : Nat) : HP := (hp_n h + 1, hp_s h + s, fun b => if b = hp_n h then t else hp_k h b, fun b => if b = hp_n h then n else hp_l h b, fun b j => if b = hp_n h then 0 else hp_i h b j, fun b j => if b = hp_n h then 0 else hp_a h b j)
/-- System.arraycopy of ints -/
def hp_cp (h : HP) (a sp b dp n : Nat) : HP := (hp_n h, hp_s h, hp_k h, hp_l h, fun c j => if c = b ∧ dp ≤ j ∧ j < dp + n then hp_i h a (sp + (j - dp)) else hp_i h c j, hp_a h)
theorem hp_n_wi (h : HP) (a k : Nat) (v : Int32) : hp_n (hp_wi h a k v) = hp_n h := rfl
theorem hp_s_wi (h : HP) (a k : Nat) (v : Int32) : hp_s (hp_wi h a k v) = hp_s h := rfl
theorem hp_k_wi (h : HP) (a k : Nat) (v : Int32) : hp_k (hp_wi h a k v) = hp_k h := rfl
theorem hp_l_wi (h : HP) (a k : Nat) (v : Int32) : hp_l (hp_wi h a k v) = hp_l h := rfl
theorem hp_i_wi (h : HP) (a k : Nat) (v : Int32) (b j : Nat) : hp_i (hp_wi h a k v) b j = if b = a ∧ j = k then v else hp_i h b j := rfl
theorem hp_a_wi (h : HP) (a k : Nat) (v : Int32) : hp_a (hp_wi h a k v) = hp_a h := rfl
theorem hp_n_wa (h : HP) (a k : Nat) (v : Nat) : hp_n (hp_wa h a k v) = hp_n h := rfl
theorem hp_s_wa (h : HP) (a k : Nat) (v : Nat) : hp_s (hp_wa h a k v) = hp_s h := rfl
theorem hp_k_wa (h : HP) (a k : Nat) (v : Nat) : hp_k (hp_wa h a k v) = hp_k h := rfl
theorem hp_l_wa (h : HP) (a k : Nat) (v : Nat) : hp_l (hp_wa h a k v) = hp_l h := rfl
theorem hp_i_wa (h : HP) (a k : Nat) (v : Nat) : hp_i (hp_wa h a k v) = hp_i h := rfl
theorem hp_a_wa (h : HP) (a k : Nat) (v : Nat) (b j : Nat) : hp_a (hp_wa h a k v) b j = if b = a ∧ j = k then v else hp_a h b j := rfl
theorem hp_n_mk (h : HP) (t n s : Nat) : hp_n (hp_mk h t n s) = hp_n h + 1 := rfl
theorem hp_s_mk (h : HP) (t n s : Nat) : hp_s (hp_mk h t n s) = hp_s h + s := rfl
theorem hp_k_mk (h : HP) (t n s : Nat) (b : Nat) : hp_k (hp_mk h t n s) b = if b = hp_n h then t else hp_k h b := rfl
theorem hp_l_mk (h : HP) (t n s : Nat) (b : Nat) : hp_l (hp_mk h t n s) b = if b = hp_n h then n else hp_l h b := rfl
theorem hp_i_mk (h : HP) (t n s : Nat) (b j : Nat) : hp_i (hp_mk h t n s) b j = if b = hp_n h then 0 else hp_i h b j := rfl
theorem hp_a_mk (h : HP) (t n s : Nat) (b j : Nat) : hp_a (hp_mk h t n s) b j = if b = hp_n h then 0 else hp_a h b j := rfl
theorem hp_n_cp (h : HP) (a sp b dp n : Nat) : hp_n (hp_cp h a sp b dp n) = hp_n h := rfl
theorem hp_s_cp (h : HP) (a sp b dp n : Nat) : hp_s (hp_cp h a sp b dp n) = hp_s h := rfl
theorem hp_k_cp (h : HP) (a sp b dp n : Nat) : hp_k (hp_cp h a sp b dp n) = hp_k h := rfl
theorem hp_l_cp (h : HP) (a sp b dp n : Nat) : hp_l (hp_cp h a sp b dp n) = hp_l h := rfl
theorem hp_i_cp (h : HP) (a sp b dp n : Nat) (c j : Nat) : hp_i (hp_cp h a sp b dp n) c j = if c = b ∧ dp ≤ j ∧ j < dp + n then hp_i h a (sp + (j - dp)) else hp_i h c j := rfl
theorem hp_a_cp (h : HP) (a sp b dp n : Nat) : hp_a (hp_cp h a sp b dp n) = hp_a h := rfl
/-- operands, top first -/
def s_i {α : Type} (S : List Value) (f : Int32 → List Value → Option α) : Option α := match S with
  | .int x :: S => f x S
  | _ => none
def s_j {α : Type} (S : List Value) (f : Int64 → List Value → Option α) : Option α := match S with
  | .long x :: S => f x S
  | _ => none
def s_a {α : Type} (S : List Value) (f : Nat → List Value → Option α) : Option α := match S with
  | .ref x :: S => f x S
  | _ => none
def s_v {α : Type} (S : List Value) (f : Value → List Value → Option α) : Option α := match S with
  | x :: S => f x S
  | _ => none
theorem s_i_some {α : Type} {S : List Value} {f : Int32 → List Value → Option α} {r : α} (h : s_i S f = some r) : ∃ x S', S = .int x :: S' ∧ f x S' = some r := by
  unfold s_i at h
  split at h
  · exact ⟨_, _, rfl, h⟩
  · cases h
theorem s_j_some {α : Type} {S : List Value} {f : Int64 → List Value → Option α} {r : α} (h : s_j S f = some r) : ∃ x S', S = .long x :: S' ∧ f x S' = some r := by
  unfold s_j at h
  split at h
  · exact ⟨_, _, rfl, h⟩
  · cases h
theorem s_a_some {α : Type} {S : List Value} {f : Nat → List Value → Option α} {r : α} (h : s_a S f = some r) : ∃ x S', S = .ref x :: S' ∧ f x S' = some r := by
  unfold s_a at h
  split at h
  · exact ⟨_, _, rfl, h⟩
  · cases h
theorem s_v_some {α : Type} {S : List Value} {f : Value → List Value → Option α} {r : α} (h : s_v S f = some r) : ∃ x S', S = x :: S' ∧ f x S' = some r := by
  unfold s_v at h
  split at h
  · exact ⟨_, _, rfl, h⟩
  · cases h
def gd {α : Type} (b : Bool) (x : Option α) : Option α := match b with
  | true => x
  | false => none
theorem gd_some {α : Type} {b : Bool} {x : Option α} {r : α} (h : gd b x = some r) : b = true ∧ x = some r := by
  cases b
  · cases h
  · exact ⟨rfl, h⟩
def isI (v : Value) : Bool := match v with
  | .int _ => true
  | _ => false
def isJ (v : Value) : Bool := match v with
  | .long _ => true
  | _ => false
def isA (v : Value) : Bool := match v with
  | .ref _ => true
  | _ => false
def lget (L : List Value) (k : Nat) : Value := L.getD k (.retAddr 0)
abbrev ix (j : Int32) : Nat := j.toNatClampNeg
/-- an index within -/
def inb (j : Int32) (n : Nat) : Bool := decide (0 ≤ j) && decide (ix j < n)
def okr (a : Nat) : Bool := a == 0 || decide (4 ≤ a)
def cnd (c : Jvm.ClassFile.Cond) (x y : Int32) : Bool := match c with
  | .eq => decide (x = y)
  | .ne => decide (¬ x = y)
  | .lt => decide (x < y)
  | .ge => decide (y ≤ x)
  | .gt => decide (y < x)
  | .le => decide (x ≤ y)
/-- a jump -/
def jmp (pc : Nat) (off : Int) (L S : List Value) (h : HP) : Option (Nat × List Value × List Value × HP) := gd (decide (0 ≤ (pc : Int) + off)) (some (((pc : Int) + off).toNat, L, S, h))
def jif (b : Bool) (pc : Nat) (off : Int) (L S : List Value) (h : HP) : Option (Nat × List Value × List Value × HP) := gd (decide (0 ≤ (pc : Int) + off)) (match b with
  | true => some (((pc : Int) + off).toNat, L, S, h)
  | false => some (pc + 3, L, S, h))
def fval (ty : FieldType) (h : HP) (a k : Nat) : Value := match ty with
  | .int => .int (hp_i h a k)
  | .boolean => .int (hp_i h a k)
  | _ => .ref (hp_a h a k)
/-- what a field of a type may take, and the heap behind it -/
def fput (ty : FieldType) (h : HP) (a k : Nat) (v : Value) : Option HP := match ty, v with
  | .int, .int x => some (hp_wi h a k x)
  | .boolean, .int x => gd (x == 0 || x == 1) (some (hp_wi h a k x))
  | .object _, .ref b => some (hp_wa h a k b)
  | .array _, .ref b => some (hp_wa h a k b)
  | _, _ => none
def ld (t : Value → Bool) (L : List Value) (k pc : Nat) (S : List Value) (h : HP) : Option (Nat × List Value × List Value × HP) := gd (t (lget L k)) (some (pc, L, lget L k :: S, h))
def sto (m : Nat) (t : Value → Bool) (L : List Value) (k pc : Nat) (S : List Value) (h : HP) : Option (Nat × List Value × List Value × HP) := s_v S fun v S => gd (t v && !(mlong m) && decide (k < L.length)) (some (pc, L.set k v, S, h))
def ari (pc : Nat) (L S : List Value) (h : HP) (f : Int32 → Int32 → Int32) : Option (Nat × List Value × List Value × HP) := s_i S fun y S => s_i S fun x S => some (pc + 1, L, .int (f x y) :: S, h)
def arj (pc : Nat) (L S : List Value) (h : HP) (f : Int64 → Int64 → Value) : Option (Nat × List Value × List Value × HP) := s_j S fun y S => s_j S fun x S => some (pc + 1, L, f x y :: S, h)
/-- one instruction that is no call and no return -/
def stp (m pc : Nat) (i : Instr) (len : Nat) (L S : List Value) (h : HP) : Option (Nat × List Value × List Value × HP) := match i with
  | .iconst n => gd (len == 1) (some (pc + 1, L, .int (Int32.ofInt n) :: S, h))
  | .bipush n => gd (len == 2) (some (pc + 2, L, .int (Int8.ofInt n).toInt32 :: S, h))
  | .sipush n => gd (len == 3) (some (pc + 3, L, .int (Int16.ofInt n).toInt32 :: S, h))
  | .ldc idx => gd (len == 2) ((lkC (mcl m) idx).bind fun v => some (pc + 2, L, .int v :: S, h))
  | .aconst_null => gd (len == 1) (some (pc + 1, L, .ref 0 :: S, h))
  | .iload k => gd (len == 2) (ld isI L k (pc + 2) S h)
  | .iload_n k => gd (len == 1) (ld isI L k (pc + 1) S h)
  | .aload k => gd (len == 2) (ld isA L k (pc + 2) S h)
  | .aload_n k => gd (len == 1) (ld isA L k (pc + 1) S h)
  | .lload_n k => gd (len == 1) (ld isJ L k (pc + 1) S h)
  | .istore k => gd (len == 2) (sto m isI L k (pc + 2) S h)
  | .istore_n k => gd (len == 1) (sto m isI L k (pc + 1) S h)
  | .astore k => gd (len == 2) (sto m isA L k (pc + 2) S h)
  | .astore_n k => gd (len == 1) (sto m isA L k (pc + 1) S h)
  | .iinc k n => gd (len == 3 && !(mlong m) && decide (k < L.length)) (match lget L k with
    | .int x => some (pc + 3, L.set k (.int (x + Int32.ofInt n)), S, h)
    | _ => none)
  | .iadd => gd (len == 1) (ari pc L S h (fun x y => x + y))
  | .isub => gd (len == 1) (ari pc L S h (fun x y => x - y))
  | .imul => gd (len == 1) (ari pc L S h (fun x y => x * y))
  | .iand => gd (len == 1) (ari pc L S h (fun x y => x &&& y))
  | .ior => gd (len == 1) (ari pc L S h (fun x y => x ||| y))
  | .ixor => gd (len == 1) (ari pc L S h (fun x y => x ^^^ y))
  | .ishl => gd (len == 1) (ari pc L S h (fun x y => x <<< (y &&& 31)))
  | .idiv => gd (len == 1) (s_i S fun y S => s_i S fun x S => gd (!(y == 0)) (some (pc + 1, L, .int (x / y) :: S, h)))
  | .irem => gd (len == 1) (s_i S fun y S => s_i S fun x S => gd (!(y == 0)) (some (pc + 1, L, .int (x - x / y * y) :: S, h)))
  | .i2l => gd (len == 1) (s_i S fun x S => some (pc + 1, L, .long x.toInt64 :: S, h))
  | .l2i => gd (len == 1) (s_j S fun x S => some (pc + 1, L, .int x.toInt32 :: S, h))
  | .i2b => gd (len == 1) (s_i S fun x S => some (pc + 1, L, .int x.toInt8.toInt32 :: S, h))
  | .ladd => gd (len == 1) (arj pc L S h (fun x y => .long (x + y)))
  | .lmul => gd (len == 1) (arj pc L S h (fun x y => .long (x * y)))
  | .lcmp => gd (len == 1) (arj pc L S h (fun x y => .int (lg_cmp x y)))
  | .dup => gd (len == 1) (s_v S fun v S => gd (v.category == 1) (some (pc + 1, L, v :: v :: S, h)))
  | .pop => gd (len == 1) (s_v S fun v S => gd (v.category == 1) (some (pc + 1, L, S, h)))
  | .dup2 => gd (len == 1) (s_v S fun v S => s_v S fun w S => gd (v.category == 1 && w.category == 1) (some (pc + 1, L, v :: w :: v :: w :: S, h)))
  | .ifCond c off => gd (len == 3) (s_i S fun x S => jif (cnd c x 0) pc off L S h)
  | .if_icmp c off => gd (len == 3) (s_i S fun y S => s_i S fun x S => jif (cnd c x y) pc off L S h)
  | .ifnull off => gd (len == 3) (s_a S fun a S => jif (a == 0) pc off L S h)
  | .ifnonnull off => gd (len == 3) (s_a S fun a S => jif (!(a == 0)) pc off L S h)
  | .if_acmp .eq off => gd (len == 3) (s_a S fun b S => s_a S fun a S => gd (okr a && okr b) (jif (a == b) pc off L S h))
  | .if_acmp .ne off => gd (len == 3) (s_a S fun b S => s_a S fun a S => gd (okr a && okr b) (jif (!(a == b)) pc off L S h))
  | .goto off => gd (len == 3) (jmp pc off L S h)
  | .tableswitch d lo hi offs => s_i S fun x S => match decide (x.toInt < lo) || decide (hi < x.toInt) with
    | true => jmp pc d L S h
    | false => (offs[(x.toInt - lo).toNat]?).bind fun off => jmp pc off L S h
  | .lookupswitch d ps => s_i S fun x S => gd ((ps.toList.zip (ps.toList.drop 1)).all (fun (a, next) => a.1 < next.1)) (jmp pc (Op.lookupswitch.offset ps.toList d x.toInt) L S h)
  | .getfield idx => gd (len == 3) ((lkF (mcl m) idx).bind fun f => s_a S fun a S => gd (hp_k h a == f.1 + 1) (some (pc + 3, L, fval (fty f.1 f.2.1) h a f.2.1 :: S, h)))
  | .putfield idx => gd (len == 3) ((lkF (mcl m) idx).bind fun f => s_v S fun v S => s_a S fun a S => gd (hp_k h a == f.1 + 1 && (!(ffin f.1 f.2.1) || (mini m && mcl m == f.1 && !f.2.2))) ((fput (fty f.1 f.2.1) h a f.2.1 v).bind fun h' => some (pc + 3, L, S, h')))
  | .getstatic idx => gd (len == 3) ((lkS (mcl m) idx).bind fun f => some (pc + 3, L, .ref f.1 :: S, h))
  | .iaload => gd (len == 1) (s_i S fun j S => s_a S fun a S => gd ((hp_k h a == 100 || hp_k h a == 99) && inb j (hp_l h a)) (some (pc + 1, L, .int (hp_i h a (ix j)) :: S, h)))
  | .iastore => gd (len == 1) (s_i S fun x S => s_i S fun j S => s_a S fun a S => gd (hp_k h a == 100 && inb j (hp_l h a)) (some (pc + 1, L, S, hp_wi h a (ix j) x)))
  | .aaload => gd (len == 1) (s_i S fun j S => s_a S fun a S => gd (decide (200 ≤ hp_k h a) && inb j (hp_l h a)) (some (pc + 1, L, .ref (hp_a h a (ix j)) :: S, h)))
  | .aastore => gd (len == 1) (s_a S fun v S => s_i S fun j S => s_a S fun a S => gd (decide (200 ≤ hp_k h a) && inb j (hp_l h a) && (v == 0 || hp_k h v + 199 == hp_k h a)) (some (pc + 1, L, S, hp_wa h a (ix j) v)))
  | .arraylength => gd (len == 1) (s_a S fun a S => gd (decide (99 ≤ hp_k h a)) (some (pc + 1, L, .int (Int32.ofNat (hp_l h a)) :: S, h)))
  | .newarray .int => gd (len == 2) (s_i S fun j S => gd (decide (0 ≤ j) && decide (ix j ≤ 134217728)) (some (pc + 2, L, .ref (hp_n h) :: S, hp_mk h 100 (ix j) (ix j))))
  | .anewarray idx => gd (len == 3) ((lkK (mcl m) idx).bind fun ci => s_i S fun j S => gd (lkO ci && decide (0 ≤ j) && decide (ix j ≤ 134217728)) (some (pc + 3, L, .ref (hp_n h) :: S, hp_mk h (200 + ci) (ix j) (ix j))))
  | .new idx => gd (len == 3) ((lkK (mcl m) idx).bind fun ci => some (pc + 3, L, .ref (hp_n h) :: S, hp_mk h (ci + 1) 0 (fnum ci)))
  | .invokespecial idx => gd (len == 3) ((lkM (mcl m) idx).bind fun t => gd (t.1 == 9000 && !t.2) (s_a S fun a S => gd (!(a == 0) && decide ((S.map Value.category).sum ≤ 8)) (some (pc + 3, L, S, h))))
  | .invokestatic idx => gd (len == 3) ((lkM (mcl m) idx).bind fun t => match t.1 == 9001 with
    | true => gd (!t.2) (s_i S fun y S => s_i S fun x S => gd (decide ((S.map Value.category).sum ≤ 8)) (some (pc + 3, L, .int (if x < y then y else x) :: S, h)))
    | false => gd (t.1 == 9002 && !t.2) (s_i S fun n S => s_i S fun dp S => s_a S fun b S => s_i S fun sp S => s_a S fun a S => gd (hp_k h a == 100 && hp_k h b == 100 && decide (0 ≤ sp) && decide (0 ≤ dp) && decide (0 ≤ n) && decide (ix sp + ix n ≤ hp_l h a) && decide (ix dp + ix n ≤ hp_l h b) && decide ((S.map Value.category).sum ≤ 8)) (some (pc + 3, L, S, hp_cp h a (ix sp) b (ix dp) (ix n)))))
  | _ => none
/-- a method's end: what it answers -/
def rets (m : Nat) (i : Instr) (len : Nat) (S : List Value) : Option (Option Value) := match i, S with
  | .return_, [] => gd (len == 1 && mret m == none) (some none)
  | .ireturn, [.int x] => gd (len == 1 && (mret m == some .int || (mret m == some .boolean && (x == 0 || x == 1)))) (some (some (.int x)))
  | .areturn, [.ref a] => gd (len == 1 && mrra m) (some (some (.ref a)))
  | _, _ => none
/-- a call: who is called, with what, and what stays on the stack -/
def kcl (i : Instr) : Option (Nat × Nat) := match i with
  | .invokevirtual idx => some (0, idx)
  | .invokestatic idx => some (1, idx)
  | .invokespecial idx => some (2, idx)
  | _ => none
def call (m : Nat) (i : Instr) (len : Nat) (S : List Value) (h : HP) : Option (Nat × List Value × List Value) :=
  (kcl i).bind fun k => (lkM (mcl m) k.2).bind fun t => gd (len == 3 && decide (t.1 < 9000) && mkd t.1 == k.1 && decide (mrf t.1 < mrf m) && decide (8 + (mxl t.1 + 11) + mrl t.1 ≤ mrl m) && decide (mnp t.1 ≤ S.length) && decide (((S.drop (mnp t.1)).map Value.category).sum ≤ 8) && (mlong t.1 || (S.take (mnp t.1)).all (fun v => v.category == 1))) (gd (rcv t.1 (S.take (mnp t.1)).reverse (hp_k h)) (some (t.1, (S.take (mnp t.1)).reverse, S.drop (mnp t.1))))
/-- the locals at a method's beginning -/
def lay (as : List Value) : List Value := match as with
  | [] => []
  | .long x :: as => .long x :: .retAddr 0 :: lay as
  | v :: as => v :: lay as
def locs0 (m : Nat) (as : List Value) : List Value := lay as ++ List.replicate (mxl m - (lay as).length) (.retAddr 0)
def prun : Nat → Nat → Nat → List Value → List Value → HP → Option (Option Value × HP)
  | 0, _, _, _, _, _ => none
  | k + 1, m, pc, L, S, h => match decode (mb m) pc with
    | .error _ => none
    | .ok (i, len) => match rets m i len S with
      | some r => some (r, h)
      | none => match call m i len S h with
        | some (m', as, S') => match prun k m' 0 (locs0 m' as) [] h with
          | none => none
          | some (r, h') => prun k m (pc + 3) L (r.toList ++ S') h'
        | none => match stp m pc i len L S h with
          | none => none
          | some (pc', L', S', h') => prun k m pc' L' S' h'
end
section
/-! THE PURE MACHINE WITHOUT FUEL -/
theorem prun_succ : ∀ (k m pc : Nat) (L S : List Value) (h : HP) (r : Option Value × HP), prun k m pc L S h = some r → prun (k + 1) m pc L S h = some r := by
  intro k
  induction k with
  | zero => intro m pc L S h r e; cases e
  | succ k ih =>
    intro m pc L S h r e
    rw [prun] at e ⊢
    cases hd : decode (mb m) pc with
    | error x => rw [hd] at e; cases e
    | ok q =>
      obtain ⟨i, len⟩ := q
      rw [hd] at e
      simp only at e ⊢
      cases hr : rets m i len S with
      | some r0 => rw [hr] at e; exact e
      | none =>
        rw [hr] at e
        simp only at e ⊢
        cases hc : call m i len S h with
        | some q =>
          obtain ⟨m', as, S'⟩ := q
          rw [hc] at e
          simp only at e ⊢
          cases h1 : prun k m' 0 (locs0 m' as) [] h with
          | none => rw [h1] at e; cases e
          | some q1 =>
            obtain ⟨r1, h1'⟩ := q1
            rw [h1] at e
            rw [ih _ _ _ _ _ _ h1]
            exact ih _ _ _ _ _ _ e
        | none =>
          rw [hc] at e
          simp only at e ⊢
          cases hs : stp m pc i len L S h with
          | none => rw [hs] at e; cases e
          | some q1 =>
            obtain ⟨pc', L', S', h'⟩ := q1
            rw [hs] at e
            exact ih _ _ _ _ _ _ e
theorem prun_le {k k' m pc : Nat} {L S : List Value} {h : HP} {r : Option Value × HP} (hk : k ≤ k') (e : prun k m pc L S h = some r) : prun k' m pc L S h = some r := by
  induction hk with
  | refl => exact e
  | step _ ih => exact prun_succ _ _ _ _ _ _ _ ih
/-- what a method answers from a place on, and the heap behind it; none: it doesn't end, or something isn't as it should be -/
noncomputable def pX (m pc : Nat) (L S : List Value) (h : HP) : Option (Option Value × HP) := @dite (Option (Option Value × HP)) (∃ k r, prun k m pc L S h = some r) (Classical.propDecidable _) (fun hx => some hx.choose_spec.choose) (fun _ => none)
theorem prun_det {k k' m pc : Nat} {L S : List Value} {h : HP} {r r' : Option Value × HP} (e : prun k m pc L S h = some r) (e' : prun k' m pc L S h = some r') : r = r' := by
  have a := prun_le (Nat.le_max_left k k') e
  have b := prun_le (Nat.le_max_right k k') e'
  rw [a] at b
  exact Option.some.inj b
theorem pX_of {k m pc : Nat} {L S : List Value} {h : HP} {r : Option Value × HP} (e : prun k m pc L S h = some r) : pX m pc L S h = some r := by
  have hx : ∃ k r, prun k m pc L S h = some r := ⟨k, r, e⟩
  unfold pX
  rw [dif_pos hx]
  exact congrArg some (prun_det hx.choose_spec.choose_spec e)
theorem pX_some {m pc : Nat} {L S : List Value} {h : HP} {r : Option Value × HP} (e : pX m pc L S h = some r) : ∃ k, prun k m pc L S h = some r := by
  unfold pX at e
  split at e
  · rename_i hx
    cases Option.some.inj e
    exact ⟨_, hx.choose_spec.choose_spec⟩
  · cases e
theorem pX_congr {m pc m' pc' : Nat} {L S L' S' : List Value} {h h' : HP} (a : ∀ k r, prun k m pc L S h = some r → ∃ k', prun k' m' pc' L' S' h' = some r) (b : ∀ k r, prun k m' pc' L' S' h' = some r → ∃ k', prun k' m pc L S h = some r) : pX m pc L S h = pX m' pc' L' S' h' := by
  cases e : pX m pc L S h with
  | some r =>
    obtain ⟨k, hk⟩ := pX_some e
    obtain ⟨k', hk'⟩ := a k r hk
    exact (pX_of hk').symm
  | none =>
    cases e' : pX m' pc' L' S' h' with
    | none => rfl
    | some r =>
      obtain ⟨k, hk⟩ := pX_some e'
      obtain ⟨k', hk'⟩ := b k r hk
      rw [pX_of hk'] at e
      cases e
theorem pX_ret {m pc len : Nat} {i : Instr} {L S : List Value} {h : HP} {r : Option Value} (hd : decode (mb m) pc = .ok (i, len)) (hr : rets m i len S = some r) : pX m pc L S h = some (r, h) := by
  refine pX_of (k := 1) ?_
  rw [prun, hd]
  simp only [hr]
theorem pX_stp {m pc len : Nat} {i : Instr} {L S : List Value} {h : HP} {pc' : Nat} {L' S' : List Value} {h' : HP} (hd : decode (mb m) pc = .ok (i, len)) (hr : rets m i len S = none) (hc : call m i len S h = none) (hs : stp m pc i len L S h = some (pc', L', S', h')) : pX m pc L S h = pX m pc' L' S' h' := by
  refine pX_congr (fun k r e => ?_) (fun k r e => ⟨k + 1, ?_⟩)
  · cases k with
    | zero => cases e
    | succ k =>
      rw [prun, hd] at e
      simp only [hr, hc, hs] at e
      exact ⟨k, e⟩
  · rw [prun, hd]
    simp only [hr, hc, hs]
    exact e
theorem pX_call {m pc len : Nat} {i : Instr} {L S : List Value} {h : HP} {m' : Nat} {as S' : List Value} {r : Option Value} {h' : HP} (hd : decode (mb m) pc = .ok (i, len)) (hr : rets m i len S = none) (hc : call m i len S h = some (m', as, S')) (hx : pX m' 0 (locs0 m' as) [] h = some (r, h')) : pX m pc L S h = pX m (pc + 3) L (r.toList ++ S') h' := by
  obtain ⟨k0, hk0⟩ := pX_some hx
  refine pX_congr (fun k r1 e => ?_) (fun k r1 e => ⟨max k k0 + 1, ?_⟩)
  · cases k with
    | zero => cases e
    | succ k =>
      rw [prun, hd] at e
      simp only [hr, hc] at e
      cases h1 : prun k m' 0 (locs0 m' as) [] h with
      | none => rw [h1] at e; cases e
      | some q =>
        rw [h1] at e
        cases prun_det h1 hk0
        exact ⟨k, e⟩
  · rw [prun, hd]
    simp only [hr, hc, prun_le (Nat.le_max_right k k0) hk0]
    exact prun_le (Nat.le_max_left k k0) e
theorem pX_callb {m pc len : Nat} {i : Instr} {L S : List Value} {h : HP} {m' : Nat} {as S' : List Value} (hd : decode (mb m) pc = .ok (i, len)) (hr : rets m i len S = none) (hc : call m i len S h = some (m', as, S')) : pX m pc L S h = (pX m' 0 (locs0 m' as) [] h).bind (fun q => pX m (pc + 3) L (q.1.toList ++ S') q.2) := by
  cases hx : pX m' 0 (locs0 m' as) [] h with
  | some q => exact pX_call hd hr hc hx
  | none =>
    show _ = none
    cases e : pX m pc L S h with
    | none => rfl
    | some r =>
      obtain ⟨k, hk⟩ := pX_some e
      cases k with
      | zero => cases hk
      | succ k =>
        rw [prun, hd] at hk
        simp only [hr, hc] at hk
        cases h1 : prun k m' 0 (locs0 m' as) [] h with
        | none => rw [h1] at hk; cases hk
        | some q => rw [pX_of h1] at hx; cases hx
end
section
/-! A ROW FOR EACH KIND OF INSTRUCTION -/
theorem gd_t {α : Type} {b : Bool} {x : Option α} (hb : b = true) : gd b x = x := by subst hb; rfl
theorem gdk {α : Type} {h : HP} {a t : Nat} {x : Option α} (hk : hp_k h a = t) : gd (hp_k h a == t) x = x := gd_t (beq_iff_eq.mpr hk)
theorem beq_n {α : Type} [BEq α] [LawfulBEq α] {a b : α} (h : ¬ a = b) : (a == b) = false := by simpa using h
section Rows
variable {m pc : Nat} {L S : List Value} {h : HP}
theorem pX_iconst {n : Int} {v : Int32} (hd : decode (mb m) pc = .ok (.iconst n, 1)) (hv : Int32.ofInt n = v) : pX m pc L S h = pX m (pc + 1) L (.int v :: S) h := by
  subst hv; exact pX_stp hd rfl rfl rfl
theorem pX_bipush {n : Int} {v : Int32} (hd : decode (mb m) pc = .ok (.bipush n, 2)) (hv : (Int8.ofInt n).toInt32 = v) : pX m pc L S h = pX m (pc + 2) L (.int v :: S) h := by
  subst hv; exact pX_stp hd rfl rfl rfl
theorem pX_sipush {n : Int} {v : Int32} (hd : decode (mb m) pc = .ok (.sipush n, 3)) (hv : (Int16.ofInt n).toInt32 = v) : pX m pc L S h = pX m (pc + 3) L (.int v :: S) h := by
  subst hv; exact pX_stp hd rfl rfl rfl
theorem pX_ldc {idx : Nat} {v : Int32} (hd : decode (mb m) pc = .ok (.ldc idx, 2)) (hv : lkC (mcl m) idx = some v) : pX m pc L S h = pX m (pc + 2) L (.int v :: S) h :=
  pX_stp hd rfl rfl (by simp [stp, hv, gd])
theorem pX_iinc {k : Nat} {n : Int} {v x : Int32} {L' : List Value} (hd : decode (mb m) pc = .ok (.iinc k n, 3)) (hv : Int32.ofInt n = v) (hl : mlong m = false) (hk : k < L.length) (hg : lget L k = .int x) (hL : L.set k (.int (x + v)) = L') : pX m pc L S h = pX m (pc + 3) L' S h := by
  subst hv; subst hL; exact pX_stp hd rfl rfl (by simp [stp, hl, hk, hg, gd])
theorem pX_if {c : Jvm.ClassFile.Cond} {off : Int} {t : Nat} {x : Int32} (hd : decode (mb m) pc = .ok (.ifCond c off, 3)) (ht : (pc : Int) + off = (t : Int)) : pX m pc L (.int x :: S) h = if cnd c x 0 = true then pX m t L S h else pX m (pc + 3) L S h := by
  by_cases hc : cnd c x 0 = true
  · rw [if_pos hc]
    exact pX_stp hd rfl rfl (by simp [stp, s_i, jif, hc, jmp, gd, ht])
  · rw [if_neg hc]
    exact pX_stp hd rfl rfl (by simp [stp, s_i, jif, hc, gd, ht])
theorem pX_icmp {c : Jvm.ClassFile.Cond} {off : Int} {t : Nat} {x y : Int32} (hd : decode (mb m) pc = .ok (.if_icmp c off, 3)) (ht : (pc : Int) + off = (t : Int)) : pX m pc L (.int y :: .int x :: S) h = if cnd c x y = true then pX m t L S h else pX m (pc + 3) L S h := by
  by_cases hc : cnd c x y = true
  · rw [if_pos hc]
    exact pX_stp hd rfl rfl (by simp [stp, s_i, jif, hc, jmp, gd, ht])
  · rw [if_neg hc]
    exact pX_stp hd rfl rfl (by simp [stp, s_i, jif, hc, gd, ht])
theorem if_dec {α : Type} {p : Prop} [Decidable p] {a b : α} : (if decide p = true then a else b) = if p then a else b := by simp
theorem pX_if_eq {off : Int} {t : Nat} {x : Int32} (hd : decode (mb m) pc = .ok (.ifCond .eq off, 3)) (ht : (pc : Int) + off = (t : Int)) : pX m pc L (.int x :: S) h = if x = 0 then pX m t L S h else pX m (pc + 3) L S h := (pX_if hd ht).trans if_dec
theorem pX_if_ne {off : Int} {t : Nat} {x : Int32} (hd : decode (mb m) pc = .ok (.ifCond .ne off, 3)) (ht : (pc : Int) + off = (t : Int)) : pX m pc L (.int x :: S) h = if x = 0 then pX m (pc + 3) L S h else pX m t L S h := by
  rw [pX_if hd ht]; by_cases hx : x = 0 <;> simp [cnd, hx]
theorem pX_if_lt {off : Int} {t : Nat} {x : Int32} (hd : decode (mb m) pc = .ok (.ifCond .lt off, 3)) (ht : (pc : Int) + off = (t : Int)) : pX m pc L (.int x :: S) h = if x < 0 then pX m t L S h else pX m (pc + 3) L S h := (pX_if hd ht).trans if_dec
theorem pX_if_ge {off : Int} {t : Nat} {x : Int32} (hd : decode (mb m) pc = .ok (.ifCond .ge off, 3)) (ht : (pc : Int) + off = (t : Int)) : pX m pc L (.int x :: S) h = if 0 ≤ x then pX m t L S h else pX m (pc + 3) L S h := (pX_if hd ht).trans if_dec
theorem pX_if_gt {off : Int} {t : Nat} {x : Int32} (hd : decode (mb m) pc = .ok (.ifCond .gt off, 3)) (ht : (pc : Int) + off = (t : Int)) : pX m pc L (.int x :: S) h = if 0 < x then pX m t L S h else pX m (pc + 3) L S h := (pX_if hd ht).trans if_dec
theorem pX_if_le {off : Int} {t : Nat} {x : Int32} (hd : decode (mb m) pc = .ok (.ifCond .le off, 3)) (ht : (pc : Int) + off = (t : Int)) : pX m pc L (.int x :: S) h = if x ≤ 0 then pX m t L S h else pX m (pc + 3) L S h := (pX_if hd ht).trans if_dec
theorem pX_icmp_eq {off : Int} {t : Nat} {x y : Int32} (hd : decode (mb m) pc = .ok (.if_icmp .eq off, 3)) (ht : (pc : Int) + off = (t : Int)) : pX m pc L (.int y :: .int x :: S) h = if x = y then pX m t L S h else pX m (pc + 3) L S h := (pX_icmp hd ht).trans if_dec
theorem pX_icmp_ne {off : Int} {t : Nat} {x y : Int32} (hd : decode (mb m) pc = .ok (.if_icmp .ne off, 3)) (ht : (pc : Int) + off = (t : Int)) : pX m pc L (.int y :: .int x :: S) h = if x = y then pX m (pc + 3) L S h else pX m t L S h := by
  rw [pX_icmp hd ht]; by_cases hx : x = y <;> simp [cnd, hx]
theorem pX_icmp_lt {off : Int} {t : Nat} {x y : Int32} (hd : decode (mb m) pc = .ok (.if_icmp .lt off, 3)) (ht : (pc : Int) + off = (t : Int)) : pX m pc L (.int y :: .int x :: S) h = if x < y then pX m t L S h else pX m (pc + 3) L S h := (pX_icmp hd ht).trans if_dec
theorem pX_icmp_ge {off : Int} {t : Nat} {x y : Int32} (hd : decode (mb m) pc = .ok (.if_icmp .ge off, 3)) (ht : (pc : Int) + off = (t : Int)) : pX m pc L (.int y :: .int x :: S) h = if y ≤ x then pX m t L S h else pX m (pc + 3) L S h := (pX_icmp hd ht).trans if_dec
theorem pX_icmp_gt {off : Int} {t : Nat} {x y : Int32} (hd : decode (mb m) pc = .ok (.if_icmp .gt off, 3)) (ht : (pc : Int) + off = (t : Int)) : pX m pc L (.int y :: .int x :: S) h = if y < x then pX m t L S h else pX m (pc + 3) L S h := (pX_icmp hd ht).trans if_dec
theorem pX_icmp_le {off : Int} {t : Nat} {x y : Int32} (hd : decode (mb m) pc = .ok (.if_icmp .le off, 3)) (ht : (pc : Int) + off = (t : Int)) : pX m pc L (.int y :: .int x :: S) h = if x ≤ y then pX m t L S h else pX m (pc + 3) L S h := (pX_icmp hd ht).trans if_dec
theorem pX_ifnull {off : Int} {t a : Nat} (hd : decode (mb m) pc = .ok (.ifnull off, 3)) (ht : (pc : Int) + off = (t : Int)) : pX m pc L (.ref a :: S) h = if a = 0 then pX m t L S h else pX m (pc + 3) L S h := by
  by_cases hc : a = 0
  · rw [if_pos hc]
    exact pX_stp hd rfl rfl (by simp [stp, s_a, jif, hc, jmp, gd, ht])
  · rw [if_neg hc]
    exact pX_stp hd rfl rfl (by simp [stp, s_a, jif, beq_n hc, gd, ht])
theorem pX_ifnonnull {off : Int} {t a : Nat} (hd : decode (mb m) pc = .ok (.ifnonnull off, 3)) (ht : (pc : Int) + off = (t : Int)) : pX m pc L (.ref a :: S) h = if a = 0 then pX m (pc + 3) L S h else pX m t L S h := by
  by_cases hc : a = 0
  · rw [if_pos hc]
    exact pX_stp hd rfl rfl (by simp [stp, s_a, jif, hc, gd, ht])
  · rw [if_neg hc]
    exact pX_stp hd rfl rfl (by simp [stp, s_a, jif, beq_n hc, jmp, gd, ht])
theorem pX_acmp_eq {off : Int} {t a b : Nat} (hd : decode (mb m) pc = .ok (.if_acmp .eq off, 3)) (ht : (pc : Int) + off = (t : Int)) (ha : okr a = true) (hb : okr b = true) : pX m pc L (.ref b :: .ref a :: S) h = if a = b then pX m t L S h else pX m (pc + 3) L S h := by
  by_cases hc : a = b
  · rw [if_pos hc]
    exact pX_stp hd rfl rfl (by simp [stp, s_a, jif, ha, hb, hc, jmp, gd, ht])
  · rw [if_neg hc]
    exact pX_stp hd rfl rfl (by simp [stp, s_a, jif, ha, hb, beq_n hc, gd, ht])
theorem pX_acmp_ne {off : Int} {t a b : Nat} (hd : decode (mb m) pc = .ok (.if_acmp .ne off, 3)) (ht : (pc : Int) + off = (t : Int)) (ha : okr a = true) (hb : okr b = true) : pX m pc L (.ref b :: .ref a :: S) h = if a = b then pX m (pc + 3) L S h else pX m t L S h := by
  by_cases hc : a = b
  · rw [if_pos hc]
    exact pX_stp hd rfl rfl (by simp [stp, s_a, jif, ha, hb, hc, gd, ht])
  · rw [if_neg hc]
    exact pX_stp hd rfl rfl (by simp [stp, s_a, jif, ha, hb, beq_n hc, jmp, gd, ht])
theorem pX_goto {off : Int} {t : Nat} (hd : decode (mb m) pc = .ok (.goto off, 3)) (ht : (pc : Int) + off = (t : Int)) : pX m pc L S h = pX m t L S h := pX_stp hd rfl rfl (by simp [stp, jmp, gd, ht])
theorem pX_tabIn {d lo hi off : Int} {offs : Array Int} {len t : Nat} {x : Int32} (hd : decode (mb m) pc = .ok (.tableswitch d lo hi offs, len)) (h1 : ¬ x.toInt < lo) (h2 : ¬ hi < x.toInt) (ho : offs[(x.toInt - lo).toNat]? = some off) (ht : (pc : Int) + off = (t : Int)) : pX m pc L (.int x :: S) h = pX m t L S h := pX_stp hd rfl rfl (by simp [stp, s_i, jmp, gd, ht, h1, h2, ho])
theorem pX_tabOut {d lo hi : Int} {offs : Array Int} {len t : Nat} {x : Int32} (hd : decode (mb m) pc = .ok (.tableswitch d lo hi offs, len)) (h1 : x.toInt < lo ∨ hi < x.toInt) (ht : (pc : Int) + d = (t : Int)) : pX m pc L (.int x :: S) h = pX m t L S h := by
  refine pX_stp hd rfl rfl ?_
  have e : (decide (x.toInt < lo) || decide (hi < x.toInt)) = true := by simpa using h1
  simp [stp, s_i, jmp, gd, ht, e]
theorem pX_look {d off : Int} {ps : Array (Int × Int)} {len t : Nat} {x : Int32} (hd : decode (mb m) pc = .ok (.lookupswitch d ps, len)) (hp : (ps.toList.zip (ps.toList.drop 1)).all (fun (a, next) => a.1 < next.1) = true) (ho : Op.lookupswitch.offset ps.toList d x.toInt = off) (ht : (pc : Int) + off = (t : Int)) : pX m pc L (.int x :: S) h = pX m t L S h := by
  refine pX_stp hd rfl rfl ?_
  show gd _ _ = _
  rw [gd_t hp, ho]
  simp [jmp, gd, ht]
theorem pX_get {idx ci k a : Nat} {b : Bool} {v : Value} (hd : decode (mb m) pc = .ok (.getfield idx, 3)) (hf : lkF (mcl m) idx = some (ci, k, b)) (hv : fval (fty ci k) h a k = v) (hk : hp_k h a = ci + 1) : pX m pc L (.ref a :: S) h = pX m (pc + 3) L (v :: S) h := by
  subst hv; exact pX_stp hd rfl rfl (by simp [stp, s_a, hf, gd, hk])
theorem pX_put {idx ci k a : Nat} {b : Bool} {v : Value} {h' : HP} (hd : decode (mb m) pc = .ok (.putfield idx, 3)) (hf : lkF (mcl m) idx = some (ci, k, b)) (hw : (!(ffin ci k) || (mini m && mcl m == ci && !b)) = true) (hv : fput (fty ci k) h a k v = some h') (hk : hp_k h a = ci + 1) : pX m pc L (v :: .ref a :: S) h = pX m (pc + 3) L S h' := by
  refine pX_stp hd rfl rfl ?_
  show gd true _ = _
  simp only [gd, hf, Option.bind_some, s_v, s_a, hk, beq_self_eq_true, hw, Bool.true_and, hv]
theorem pX_gets {idx e : Nat} {b : Bool} (hd : decode (mb m) pc = .ok (.getstatic idx, 3)) (hf : lkS (mcl m) idx = some (e, b)) : pX m pc L S h = pX m (pc + 3) L (.ref e :: S) h := pX_stp hd rfl rfl (by simp [stp, hf, gd])
theorem pX_ild {j : Int32} {a : Nat} (hd : decode (mb m) pc = .ok (.iaload, 1)) (hk : hp_k h a = 100) (hj : inb j (hp_l h a) = true) : pX m pc L (.int j :: .ref a :: S) h = pX m (pc + 1) L (.int (hp_i h a (ix j)) :: S) h := pX_stp hd rfl rfl (by simp [stp, s_i, s_a, hk, hj, gd])
theorem pX_ildR {j : Int32} {a : Nat} (hd : decode (mb m) pc = .ok (.iaload, 1)) (hk : hp_k h a = 99) (hj : inb j (hp_l h a) = true) : pX m pc L (.int j :: .ref a :: S) h = pX m (pc + 1) L (.int (hp_i h a (ix j)) :: S) h := pX_stp hd rfl rfl (by simp [stp, s_i, s_a, hk, hj, gd])
theorem pX_ist {j x : Int32} {a : Nat} (hd : decode (mb m) pc = .ok (.iastore, 1)) (hk : hp_k h a = 100) (hj : inb j (hp_l h a) = true) : pX m pc L (.int x :: .int j :: .ref a :: S) h = pX m (pc + 1) L S (hp_wi h a (ix j) x) := pX_stp hd rfl rfl (by simp [stp, s_i, s_a, hk, hj, gd])
theorem pX_ald {j : Int32} {a : Nat} (hd : decode (mb m) pc = .ok (.aaload, 1)) (hk : 200 ≤ hp_k h a) (hj : inb j (hp_l h a) = true) : pX m pc L (.int j :: .ref a :: S) h = pX m (pc + 1) L (.ref (hp_a h a (ix j)) :: S) h := pX_stp hd rfl rfl (by simp [stp, s_i, s_a, hk, hj, gd])
theorem pX_ast {j : Int32} {a v : Nat} (hd : decode (mb m) pc = .ok (.aastore, 1)) (hk : 200 ≤ hp_k h a) (hv : v = 0 ∨ hp_k h v + 199 = hp_k h a) (hj : inb j (hp_l h a) = true) : pX m pc L (.ref v :: .int j :: .ref a :: S) h = pX m (pc + 1) L S (hp_wa h a (ix j) v) := by
  refine pX_stp hd rfl rfl ?_
  have e : (v == 0 || hp_k h v + 199 == hp_k h a) = true := by simpa using hv
  simp [stp, s_i, s_a, hk, hj, gd, e]
theorem pX_len {a : Nat} (hd : decode (mb m) pc = .ok (.arraylength, 1)) (hk : 99 ≤ hp_k h a) : pX m pc L (.ref a :: S) h = pX m (pc + 1) L (.int (Int32.ofNat (hp_l h a)) :: S) h := pX_stp hd rfl rfl (by simp [stp, s_a, hk, gd])
theorem pX_newa {j : Int32} (hd : decode (mb m) pc = .ok (.newarray .int, 2)) (h0 : 0 ≤ j) (h1 : ix j ≤ 134217728) : pX m pc L (.int j :: S) h = pX m (pc + 2) L (.ref (hp_n h) :: S) (hp_mk h 100 (ix j) (ix j)) := pX_stp hd rfl rfl (by simp [stp, s_i, h0, h1, gd])
theorem pX_anew {idx ci : Nat} {j : Int32} (hd : decode (mb m) pc = .ok (.anewarray idx, 3)) (hf : lkK (mcl m) idx = some ci) (ho : lkO ci = true) (h0 : 0 ≤ j) (h1 : ix j ≤ 134217728) : pX m pc L (.int j :: S) h = pX m (pc + 3) L (.ref (hp_n h) :: S) (hp_mk h (200 + ci) (ix j) (ix j)) := pX_stp hd rfl rfl (by simp [stp, s_i, hf, ho, h0, h1, gd])
theorem pX_new {idx ci : Nat} (hd : decode (mb m) pc = .ok (.new idx, 3)) (hf : lkK (mcl m) idx = some ci) : pX m pc L S h = pX m (pc + 3) L (.ref (hp_n h) :: S) (hp_mk h (ci + 1) 0 (fnum ci)) := pX_stp hd rfl rfl (by simp [stp, hf, gd])
theorem pX_div {x y : Int32} (hd : decode (mb m) pc = .ok (.idiv, 1)) (hy : ¬ y = 0) : pX m pc L (.int y :: .int x :: S) h = pX m (pc + 1) L (.int (x / y) :: S) h := pX_stp hd rfl rfl (by simp [stp, s_i, beq_n hy, gd])
theorem pX_rem {x y : Int32} (hd : decode (mb m) pc = .ok (.irem, 1)) (hy : ¬ y = 0) : pX m pc L (.int y :: .int x :: S) h = pX m (pc + 1) L (.int (x - x / y * y) :: S) h := pX_stp hd rfl rfl (by simp [stp, s_i, beq_n hy, gd])
theorem pX_oinit {idx a : Nat} (hd : decode (mb m) pc = .ok (.invokespecial idx, 3)) (hf : lkM (mcl m) idx = some (9000, false)) (hs : (S.map Value.category).sum ≤ 8) (ha : ¬ a = 0) : pX m pc L (.ref a :: S) h = pX m (pc + 3) L S h := by
  refine pX_stp hd rfl (by simp [call, kcl, hf, gd]) ?_
  simp only [stp, hf, Option.bind_some, s_a]
  simp [gd, beq_n ha, hs]
theorem pX_max {idx : Nat} {x y : Int32} (hd : decode (mb m) pc = .ok (.invokestatic idx, 3)) (hf : lkM (mcl m) idx = some (9001, false)) (hs : (S.map Value.category).sum ≤ 8) : pX m pc L (.int y :: .int x :: S) h = pX m (pc + 3) L (.int (if x < y then y else x) :: S) h := by
  refine pX_stp hd rfl (by simp [call, kcl, hf, gd]) ?_
  simp only [stp, hf, Option.bind_some, s_i]
  simp [gd, hs]
theorem pX_copy {idx a b : Nat} {sp dp n : Int32} (hd : decode (mb m) pc = .ok (.invokestatic idx, 3)) (hf : lkM (mcl m) idx = some (9002, false)) (hs : (S.map Value.category).sum ≤ 8) (ha : hp_k h a = 100) (hb : hp_k h b = 100) (h1 : 0 ≤ sp) (h2 : 0 ≤ dp) (h3 : 0 ≤ n) (h4 : ix sp + ix n ≤ hp_l h a) (h5 : ix dp + ix n ≤ hp_l h b) : pX m pc L (.int n :: .int dp :: .ref b :: .int sp :: .ref a :: S) h = pX m (pc + 3) L S (hp_cp h a (ix sp) b (ix dp) (ix n)) := by
  refine pX_stp hd rfl (by simp [call, kcl, hf, gd]) ?_
  simp only [stp, hf, Option.bind_some, s_i, s_a]
  simp [gd, hs, ha, hb, h1, h2, h3, h4, h5]
theorem pX_inv {i : Instr} {a t : Nat} (m' : Nat) (as S' : List Value) {L0 : List Value} (hd : decode (mb m) pc = .ok (i, 3)) (hr : rets m i 3 S = none) (hc : call m i 3 S h = gd (hp_k h a == t) (some (m', as, S'))) (hL : locs0 m' as = L0) (hk : hp_k h a = t) : pX m pc L S h = (pX m' 0 L0 [] h).bind (fun q => pX m (pc + 3) L (q.1.toList ++ S') q.2) := by
  subst hL; exact pX_callb hd hr (hc.trans (gdk hk))
theorem pX_ins {i : Instr} (m' : Nat) (as S' : List Value) {L0 : List Value} (hd : decode (mb m) pc = .ok (i, 3)) (hr : rets m i 3 S = none) (hc : call m i 3 S h = some (m', as, S')) (hL : locs0 m' as = L0) : pX m pc L S h = (pX m' 0 L0 [] h).bind (fun q => pX m (pc + 3) L (q.1.toList ++ S') q.2) := by
  subst hL; exact pX_callb hd hr hc
end Rows
end
section
/-! SOUNDNESS 1: the words behind the tables -/
def tbL : Nat → List Nat := fun c => match c with
  | 0 => [30088, 30090, 30092, 30094]
  | 1 => [10179, 10181, 10183, 10185, 10187, 10189, 10191]
  | 2 => [30181, 30183, 30185, 30187, 30189]
  | 3 => [10223, 10225, 10227, 10229, 10231, 10233, 10235, 10237, 10239, 20001, 20003, 20005, 20007, 20009, 20011, 20013]
  | 4 => [10131, 10133, 10135, 10137, 10139, 10141, 10143, 10145, 10147, 10149, 10151, 10153]
  | 5 => [10062]
  | 6 => [10045, 10047, 10049, 10051]
  | 7 => [30053, 30055, 30057, 30059]
  | 8 => [10086, 10088, 10090, 10092]
  | 9 => [20023]
  | 10 => [20031, 20033, 20035]
  | 11 => [40133, 40135, 40137, 40139, 40141, 40143, 40145, 40147, 40149, 40151, 40153, 40155, 40157, 40159, 40161, 40163, 40165, 40167, 40169, 40171, 40173, 40175, 40177, 40179, 40181, 40183, 40185, 40187, 40189, 40191, 40193, 40195, 40197, 40199, 40201, 40203, 40205, 40207, 40209, 40211, 40213, 40215, 40217, 40219, 40221, 40223, 40225, 40227, 40229]
  | _ => []
/-- places of the words: initialized, instantiable -/
def tbI : List (Nat × Nat) := [(10013, 30071), (10007, 10156), (10014, 30169), (10002, 10024), (10006, 10095), (10004, 10056), (10003, 10032), (10012, 30036), (10005, 10068), (10008, 20017), (10001, 10016), (10009, 40078), (10000, 0)]
def wF (own idx : Nat) (f : Nat × Nat × Bool) : Cond := match f.2.2 with
  | true => .fieldLinkNest (cname own) idx (cname f.1) (ftab f.1 f.2.1).2.1 (ftab f.1 f.2.1).2.2.1 "MarkedSteps"
  | false => .fieldLink (cname own) idx (cname f.1) (ftab f.1 f.2.1).2.1 (ftab f.1 f.2.1).2.2.1
def xname (e : Nat) : String := match e with
  | 2 => "LOOKS_AT"
  | _ => "MAKES_A"
def wSt (own idx : Nat) (f : Nat × Bool) : Cond := match f.2 with
  | true => .fieldLinkNest (cname own) idx "MarkedSteps" (xname f.1) "[I" "MarkedSteps"
  | false => .fieldLink (cname own) idx "MarkedSteps" (xname f.1) "[I"
def yOf (t : Nat) : MethodName := match t with
  | 9000 => objectInit
  | 9001 => Lib.Math.max.name
  | 9002 => arraycopyName
  | t => my t
def wM (own idx : Nat) (t : Nat × Bool) : Cond := match t.2 with
  | true => .methodLinkNest (cname own) idx (yOf t.1) "MarkedSteps"
  | false => .methodLink (cname own) idx (yOf t.1)
def seg (k : Nat) : List Cond := match k with
  | 0 => k2_sels lw_privs
  | 1 => tables_1_1
  | 2 => tables_1_2
  | 3 => tables_1_3
  | 4 => tables_1_4
  | 5 => tables_1_5
  | 6 => tables_1_6
  | _ => []
theorem seg_in (k : Nat) : ∀ w ∈ seg k, w ∈ lw_tbl := by
  intro w h
  unfold seg at h
  unfold lw_tbl tables_1
  split at h <;> simp_all
def at_ (p : Nat) (x : Cond) : Bool := decide ((seg (p / 10000))[p % 10000]? = some x)
theorem at_mem {p : Nat} {x : Cond} (h : at_ p x = true) : x ∈ lw_tbl := seg_in _ _ (List.mem_of_getElem? (of_decide_eq_true h))
def mpos (m : Nat) : Nat × Nat × Nat := (mrow m).2.2.2.2.2.2.2.2.2
/-- all that the calls of a method need -/
def okm (t : Nat) : Bool := decide (mcl t < 13) && at_ (mpos t).2.1 (match mkd t == 1 with
    | true => .static (my t)
    | false => .instanceMethod (my t)) && (!(mkd t == 0) || at_ (mpos t).2.2 (.selects (cname (mcl t)) (my t) (my t))) && decide ((my t).cls = cname (mcl t)) && decide ((my t).cls ≠ "java/lang/invoke/MethodHandle") && decide ((my t).cls ≠ "java/lang/invoke/VarHandle") && plainName (my t).cls
  && decide ((parseMethodDescriptor (my t).desc).map (fun d => d.parameters.length + (match mkd t == 1 with
    | true => 0
    | false => 1)) = some (mnp t)) && (!(mkd t == 2) || (decide ((my t).name = "<init>") && decide (mret t = none)))
  && decide (mkd t ≤ 2) && decide (1 ≤ mrf t) && decide (40 ≤ mrl t) && (match mlong t with
    | true => mnp t == 2 && mxl t == 3 && mkd t == 0
    | false => decide (mnp t ≤ mxl t))
def ckF : Bool := (List.range 13).all fun own => (tbF own).all fun e => at_ e.2.2 (wF own e.1 e.2.1) && decide (e.2.1.1 < 12) && decide (e.2.1.2.1 < fnum e.2.1.1) && decide ((ftab e.2.1.1 e.2.1.2.1).1 = cname e.2.1.1)
def ckS : Bool := (List.range 13).all fun own => (tbS own).all fun e => at_ e.2.2 (wSt own e.1 e.2.1) && (e.2.1.1 == 2 || e.2.1.1 == 3)
def okl (t : Nat) : Bool := decide (t / 100 < 12) && decide (t % 100 < (tbY (t / 100)).length)
def ckM : Bool := (List.range 13).all fun own => (tbM own).all fun e => at_ e.2.2 (wM own e.1 e.2.1) && (match decide (e.2.1.1 < 9000) with
    | true => okl e.2.1.1
    | false => true)
set_option maxRecDepth 20000 in
theorem cw0 : (seg 3)[74]? = some (Cond.code (my 0) (mb 0) (mxl 0) (mret 0)) := rfl
set_option maxRecDepth 20000 in
theorem cw1 : (seg 3)[146]? = some (Cond.code (my 1) (mb 1) (mxl 1) (mret 1)) := rfl
set_option maxRecDepth 20000 in
theorem cw2 : (seg 4)[24]? = some (Cond.code (my 2) (mb 2) (mxl 2) (mret 2)) := rfl
set_option maxRecDepth 20000 in
theorem cw3 : (seg 3)[232]? = some (Cond.code (my 3) (mb 3) (mxl 3) (mret 3)) := rfl
set_option maxRecDepth 20000 in
theorem cw4 : (seg 3)[236]? = some (Cond.code (my 4) (mb 4) (mxl 4) (mret 4)) := rfl
set_option maxRecDepth 20000 in
theorem cw100 : (seg 1)[159]? = some (Cond.code (my 100) (mb 100) (mxl 100) (mret 100)) := rfl
set_option maxRecDepth 20000 in
theorem cw101 : (seg 2)[188]? = some (Cond.code (my 101) (mb 101) (mxl 101) (mret 101)) := rfl
set_option maxRecDepth 20000 in
theorem cw102 : (seg 2)[226]? = some (Cond.code (my 102) (mb 102) (mxl 102) (mret 102)) := rfl
set_option maxRecDepth 20000 in
theorem cw103 : (seg 2)[209]? = some (Cond.code (my 103) (mb 103) (mxl 103) (mret 103)) := rfl
set_option maxRecDepth 20000 in
theorem cw104 : (seg 3)[212]? = some (Cond.code (my 104) (mb 104) (mxl 104) (mret 104)) := rfl
set_option maxRecDepth 20000 in
theorem cw105 : (seg 2)[221]? = some (Cond.code (my 105) (mb 105) (mxl 105) (mret 105)) := rfl
set_option maxRecDepth 20000 in
theorem cw200 : (seg 3)[172]? = some (Cond.code (my 200) (mb 200) (mxl 200) (mret 200)) := rfl
set_option maxRecDepth 20000 in
theorem cw300 : (seg 1)[27]? = some (Cond.code (my 300) (mb 300) (mxl 300) (mret 300)) := rfl
set_option maxRecDepth 20000 in
theorem cw301 : (seg 2)[56]? = some (Cond.code (my 301) (mb 301) (mxl 301) (mret 301)) := rfl
set_option maxRecDepth 20000 in
theorem cw302 : (seg 2)[48]? = some (Cond.code (my 302) (mb 302) (mxl 302) (mret 302)) := rfl
set_option maxRecDepth 20000 in
theorem cw303 : (seg 2)[205]? = some (Cond.code (my 303) (mb 303) (mxl 303) (mret 303)) := rfl
set_option maxRecDepth 20000 in
theorem cw304 : (seg 4)[63]? = some (Cond.code (my 304) (mb 304) (mxl 304) (mret 304)) := rfl
set_option maxRecDepth 20000 in
theorem cw305 : (seg 2)[164]? = some (Cond.code (my 305) (mb 305) (mxl 305) (mret 305)) := rfl
set_option maxRecDepth 20000 in
theorem cw306 : (seg 2)[236]? = some (Cond.code (my 306) (mb 306) (mxl 306) (mret 306)) := rfl
set_option maxRecDepth 20000 in
theorem cw307 : (seg 3)[0]? = some (Cond.code (my 307) (mb 307) (mxl 307) (mret 307)) := rfl
set_option maxRecDepth 20000 in
theorem cw308 : (seg 2)[176]? = some (Cond.code (my 308) (mb 308) (mxl 308) (mret 308)) := rfl
set_option maxRecDepth 20000 in
theorem cw309 : (seg 2)[213]? = some (Cond.code (my 309) (mb 309) (mxl 309) (mret 309)) := rfl
set_option maxRecDepth 20000 in
theorem cw310 : (seg 2)[201]? = some (Cond.code (my 310) (mb 310) (mxl 310) (mret 310)) := rfl
set_option maxRecDepth 20000 in
theorem cw311 : (seg 4)[3]? = some (Cond.code (my 311) (mb 311) (mxl 311) (mret 311)) := rfl
set_option maxRecDepth 20000 in
theorem cw312 : (seg 4)[12]? = some (Cond.code (my 312) (mb 312) (mxl 312) (mret 312)) := rfl
set_option maxRecDepth 20000 in
theorem cw313 : (seg 2)[231]? = some (Cond.code (my 313) (mb 313) (mxl 313) (mret 313)) := rfl
set_option maxRecDepth 20000 in
theorem cw314 : (seg 2)[197]? = some (Cond.code (my 314) (mb 314) (mxl 314) (mret 314)) := rfl
set_option maxRecDepth 20000 in
theorem cw315 : (seg 3)[4]? = some (Cond.code (my 315) (mb 315) (mxl 315) (mret 315)) := rfl
set_option maxRecDepth 20000 in
theorem cw316 : (seg 3)[219]? = some (Cond.code (my 316) (mb 316) (mxl 316) (mret 316)) := rfl
set_option maxRecDepth 20000 in
theorem cw317 : (seg 3)[239]? = some (Cond.code (my 317) (mb 317) (mxl 317) (mret 317)) := rfl
set_option maxRecDepth 20000 in
theorem cw318 : (seg 3)[14]? = some (Cond.code (my 318) (mb 318) (mxl 318) (mret 318)) := rfl
set_option maxRecDepth 20000 in
theorem cw319 : (seg 3)[18]? = some (Cond.code (my 319) (mb 319) (mxl 319) (mret 319)) := rfl
set_option maxRecDepth 20000 in
theorem cw320 : (seg 3)[30]? = some (Cond.code (my 320) (mb 320) (mxl 320) (mret 320)) := rfl
set_option maxRecDepth 20000 in
theorem cw321 : (seg 3)[69]? = some (Cond.code (my 321) (mb 321) (mxl 321) (mret 321)) := rfl
set_option maxRecDepth 20000 in
theorem cw322 : (seg 3)[103]? = some (Cond.code (my 322) (mb 322) (mxl 322) (mret 322)) := rfl
set_option maxRecDepth 20000 in
theorem cw323 : (seg 3)[129]? = some (Cond.code (my 323) (mb 323) (mxl 323) (mret 323)) := rfl
set_option maxRecDepth 20000 in
theorem cw324 : (seg 3)[139]? = some (Cond.code (my 324) (mb 324) (mxl 324) (mret 324)) := rfl
set_option maxRecDepth 20000 in
theorem cw325 : (seg 3)[142]? = some (Cond.code (my 325) (mb 325) (mxl 325) (mret 325)) := rfl
set_option maxRecDepth 20000 in
theorem cw326 : (seg 3)[149]? = some (Cond.code (my 326) (mb 326) (mxl 326) (mret 326)) := rfl
set_option maxRecDepth 20000 in
theorem cw327 : (seg 3)[159]? = some (Cond.code (my 327) (mb 327) (mxl 327) (mret 327)) := rfl
set_option maxRecDepth 20000 in
theorem cw328 : (seg 3)[195]? = some (Cond.code (my 328) (mb 328) (mxl 328) (mret 328)) := rfl
set_option maxRecDepth 20000 in
theorem cw329 : (seg 3)[203]? = some (Cond.code (my 329) (mb 329) (mxl 329) (mret 329)) := rfl
set_option maxRecDepth 20000 in
theorem cw330 : (seg 3)[207]? = some (Cond.code (my 330) (mb 330) (mxl 330) (mret 330)) := rfl
set_option maxRecDepth 20000 in
theorem cw331 : (seg 3)[216]? = some (Cond.code (my 331) (mb 331) (mxl 331) (mret 331)) := rfl
set_option maxRecDepth 20000 in
theorem cw332 : (seg 3)[224]? = some (Cond.code (my 332) (mb 332) (mxl 332) (mret 332)) := rfl
set_option maxRecDepth 20000 in
theorem cw333 : (seg 3)[228]? = some (Cond.code (my 333) (mb 333) (mxl 333) (mret 333)) := rfl
set_option maxRecDepth 20000 in
theorem cw400 : (seg 1)[98]? = some (Cond.code (my 400) (mb 400) (mxl 400) (mret 400)) := rfl
set_option maxRecDepth 20000 in
theorem cw401 : (seg 2)[70]? = some (Cond.code (my 401) (mb 401) (mxl 401) (mret 401)) := rfl
set_option maxRecDepth 20000 in
theorem cw402 : (seg 2)[78]? = some (Cond.code (my 402) (mb 402) (mxl 402) (mret 402)) := rfl
set_option maxRecDepth 20000 in
theorem cw403 : (seg 2)[115]? = some (Cond.code (my 403) (mb 403) (mxl 403) (mret 403)) := rfl
set_option maxRecDepth 20000 in
theorem cw404 : (seg 4)[7]? = some (Cond.code (my 404) (mb 404) (mxl 404) (mret 404)) := rfl
set_option maxRecDepth 20000 in
theorem cw500 : (seg 1)[59]? = some (Cond.code (my 500) (mb 500) (mxl 500) (mret 500)) := rfl
set_option maxRecDepth 20000 in
theorem cw501 : (seg 3)[163]? = some (Cond.code (my 501) (mb 501) (mxl 501) (mret 501)) := rfl
set_option maxRecDepth 20000 in
theorem cw502 : (seg 3)[199]? = some (Cond.code (my 502) (mb 502) (mxl 502) (mret 502)) := rfl
set_option maxRecDepth 20000 in
theorem cw503 : (seg 3)[167]? = some (Cond.code (my 503) (mb 503) (mxl 503) (mret 503)) := rfl
set_option maxRecDepth 20000 in
theorem cw504 : (seg 2)[217]? = some (Cond.code (my 504) (mb 504) (mxl 504) (mret 504)) := rfl
set_option maxRecDepth 20000 in
theorem cw600 : (seg 1)[35]? = some (Cond.code (my 600) (mb 600) (mxl 600) (mret 600)) := rfl
set_option maxRecDepth 20000 in
theorem cw601 : (seg 2)[168]? = some (Cond.code (my 601) (mb 601) (mxl 601) (mret 601)) := rfl
set_option maxRecDepth 20000 in
theorem cw602 : (seg 2)[184]? = some (Cond.code (my 602) (mb 602) (mxl 602) (mret 602)) := rfl
set_option maxRecDepth 20000 in
theorem cw603 : (seg 2)[180]? = some (Cond.code (my 603) (mb 603) (mxl 603) (mret 603)) := rfl
set_option maxRecDepth 20000 in
theorem cw604 : (seg 3)[34]? = some (Cond.code (my 604) (mb 604) (mxl 604) (mret 604)) := rfl
set_option maxRecDepth 20000 in
theorem cw700 : (seg 3)[39]? = some (Cond.code (my 700) (mb 700) (mxl 700) (mret 700)) := rfl
set_option maxRecDepth 20000 in
theorem cw701 : (seg 3)[117]? = some (Cond.code (my 701) (mb 701) (mxl 701) (mret 701)) := rfl
set_option maxRecDepth 20000 in
theorem cw702 : (seg 3)[125]? = some (Cond.code (my 702) (mb 702) (mxl 702) (mret 702)) := rfl
set_option maxRecDepth 20000 in
theorem cw703 : (seg 3)[108]? = some (Cond.code (my 703) (mb 703) (mxl 703) (mret 703)) := rfl
set_option maxRecDepth 20000 in
theorem cw704 : (seg 3)[121]? = some (Cond.code (my 704) (mb 704) (mxl 704) (mret 704)) := rfl
set_option maxRecDepth 20000 in
theorem cw705 : (seg 3)[133]? = some (Cond.code (my 705) (mb 705) (mxl 705) (mret 705)) := rfl
set_option maxRecDepth 20000 in
theorem cw800 : (seg 1)[71]? = some (Cond.code (my 800) (mb 800) (mxl 800) (mret 800)) := rfl
set_option maxRecDepth 20000 in
theorem cw801 : (seg 2)[143]? = some (Cond.code (my 801) (mb 801) (mxl 801) (mret 801)) := rfl
set_option maxRecDepth 20000 in
theorem cw802 : (seg 2)[147]? = some (Cond.code (my 802) (mb 802) (mxl 802) (mret 802)) := rfl
set_option maxRecDepth 20000 in
theorem cw803 : (seg 3)[100]? = some (Cond.code (my 803) (mb 803) (mxl 803) (mret 803)) := rfl
set_option maxRecDepth 20000 in
theorem cw804 : (seg 3)[65]? = some (Cond.code (my 804) (mb 804) (mxl 804) (mret 804)) := rfl
set_option maxRecDepth 20000 in
theorem cw805 : (seg 2)[152]? = some (Cond.code (my 805) (mb 805) (mxl 805) (mret 805)) := rfl
set_option maxRecDepth 20000 in
theorem cw806 : (seg 3)[113]? = some (Cond.code (my 806) (mb 806) (mxl 806) (mret 806)) := rfl
set_option maxRecDepth 20000 in
theorem cw807 : (seg 3)[153]? = some (Cond.code (my 807) (mb 807) (mxl 807) (mret 807)) := rfl
set_option maxRecDepth 20000 in
theorem cw808 : (seg 3)[10]? = some (Cond.code (my 808) (mb 808) (mxl 808) (mret 808)) := rfl
set_option maxRecDepth 20000 in
theorem cw809 : (seg 4)[20]? = some (Cond.code (my 809) (mb 809) (mxl 809) (mret 809)) := rfl
set_option maxRecDepth 20000 in
theorem cw810 : (seg 3)[26]? = some (Cond.code (my 810) (mb 810) (mxl 810) (mret 810)) := rfl
set_option maxRecDepth 20000 in
theorem cw811 : (seg 3)[22]? = some (Cond.code (my 811) (mb 811) (mxl 811) (mret 811)) := rfl
set_option maxRecDepth 20000 in
theorem cw900 : (seg 2)[20]? = some (Cond.code (my 900) (mb 900) (mxl 900) (mret 900)) := rfl
set_option maxRecDepth 20000 in
theorem cw901 : (seg 2)[94]? = some (Cond.code (my 901) (mb 901) (mxl 901) (mret 901)) := rfl
set_option maxRecDepth 20000 in
theorem cw902 : (seg 2)[102]? = some (Cond.code (my 902) (mb 902) (mxl 902) (mret 902)) := rfl
set_option maxRecDepth 20000 in
theorem cw903 : (seg 2)[106]? = some (Cond.code (my 903) (mb 903) (mxl 903) (mret 903)) := rfl
set_option maxRecDepth 20000 in
theorem cw904 : (seg 2)[111]? = some (Cond.code (my 904) (mb 904) (mxl 904) (mret 904)) := rfl
set_option maxRecDepth 20000 in
theorem cw905 : (seg 2)[98]? = some (Cond.code (my 905) (mb 905) (mxl 905) (mret 905)) := rfl
set_option maxRecDepth 20000 in
theorem cw906 : (seg 2)[118]? = some (Cond.code (my 906) (mb 906) (mxl 906) (mret 906)) := rfl
set_option maxRecDepth 20000 in
theorem cw907 : (seg 2)[122]? = some (Cond.code (my 907) (mb 907) (mxl 907) (mret 907)) := rfl
set_option maxRecDepth 20000 in
theorem cw1000 : (seg 1)[19]? = some (Cond.code (my 1000) (mb 1000) (mxl 1000) (mret 1000)) := rfl
set_option maxRecDepth 20000 in
theorem cw1001 : (seg 2)[41]? = some (Cond.code (my 1001) (mb 1001) (mxl 1001) (mret 1001)) := rfl
set_option maxRecDepth 20000 in
theorem cw1002 : (seg 2)[52]? = some (Cond.code (my 1002) (mb 1002) (mxl 1002) (mret 1002)) := rfl
set_option maxRecDepth 20000 in
theorem cw1003 : (seg 2)[74]? = some (Cond.code (my 1003) (mb 1003) (mxl 1003) (mret 1003)) := rfl
set_option maxRecDepth 20000 in
theorem cw1004 : (seg 2)[82]? = some (Cond.code (my 1004) (mb 1004) (mxl 1004) (mret 1004)) := rfl
set_option maxRecDepth 20000 in
theorem cw1005 : (seg 2)[86]? = some (Cond.code (my 1005) (mb 1005) (mxl 1005) (mret 1005)) := rfl
set_option maxRecDepth 20000 in
theorem cw1006 : (seg 2)[90]? = some (Cond.code (my 1006) (mb 1006) (mxl 1006) (mret 1006)) := rfl
set_option maxRecDepth 20000 in
theorem cw1007 : (seg 2)[127]? = some (Cond.code (my 1007) (mb 1007) (mxl 1007) (mret 1007)) := rfl
set_option maxRecDepth 20000 in
theorem cw1008 : (seg 2)[131]? = some (Cond.code (my 1008) (mb 1008) (mxl 1008) (mret 1008)) := rfl
set_option maxRecDepth 20000 in
theorem cw1009 : (seg 2)[135]? = some (Cond.code (my 1009) (mb 1009) (mxl 1009) (mret 1009)) := rfl
set_option maxRecDepth 20000 in
theorem cw1010 : (seg 2)[139]? = some (Cond.code (my 1010) (mb 1010) (mxl 1010) (mret 1010)) := rfl
set_option maxRecDepth 20000 in
theorem cw1011 : (seg 2)[156]? = some (Cond.code (my 1011) (mb 1011) (mxl 1011) (mret 1011)) := rfl
set_option maxRecDepth 20000 in
theorem cw1012 : (seg 4)[16]? = some (Cond.code (my 1012) (mb 1012) (mxl 1012) (mret 1012)) := rfl
set_option maxRecDepth 20000 in
theorem cw1013 : (seg 4)[28]? = some (Cond.code (my 1013) (mb 1013) (mxl 1013) (mret 1013)) := rfl
set_option maxRecDepth 20000 in
theorem cw1014 : (seg 4)[34]? = some (Cond.code (my 1014) (mb 1014) (mxl 1014) (mret 1014)) := rfl
set_option maxRecDepth 20000 in
theorem cw1015 : (seg 4)[38]? = some (Cond.code (my 1015) (mb 1015) (mxl 1015) (mret 1015)) := rfl
set_option maxRecDepth 20000 in
theorem cw1016 : (seg 4)[42]? = some (Cond.code (my 1016) (mb 1016) (mxl 1016) (mret 1016)) := rfl
set_option maxRecDepth 20000 in
theorem cw1017 : (seg 4)[46]? = some (Cond.code (my 1017) (mb 1017) (mxl 1017) (mret 1017)) := rfl
set_option maxRecDepth 20000 in
theorem cw1018 : (seg 4)[50]? = some (Cond.code (my 1018) (mb 1018) (mxl 1018) (mret 1018)) := rfl
set_option maxRecDepth 20000 in
theorem cw1019 : (seg 4)[54]? = some (Cond.code (my 1019) (mb 1019) (mxl 1019) (mret 1019)) := rfl
set_option maxRecDepth 20000 in
theorem cw1020 : (seg 4)[58]? = some (Cond.code (my 1020) (mb 1020) (mxl 1020) (mret 1020)) := rfl
set_option maxRecDepth 20000 in
theorem cw1021 : (seg 4)[67]? = some (Cond.code (my 1021) (mb 1021) (mxl 1021) (mret 1021)) := rfl
set_option maxRecDepth 20000 in
theorem cw1022 : (seg 4)[71]? = some (Cond.code (my 1022) (mb 1022) (mxl 1022) (mret 1022)) := rfl
set_option maxRecDepth 20000 in
theorem cw1023 : (seg 4)[76]? = some (Cond.code (my 1023) (mb 1023) (mxl 1023) (mret 1023)) := rfl
set_option maxRecDepth 20000 in
theorem cw1024 : (seg 2)[160]? = some (Cond.code (my 1024) (mb 1024) (mxl 1024) (mret 1024)) := rfl
set_option maxRecDepth 20000 in
theorem cw1025 : (seg 2)[44]? = some (Cond.code (my 1025) (mb 1025) (mxl 1025) (mret 1025)) := rfl
set_option maxRecDepth 20000 in
theorem cw1026 : (seg 2)[59]? = some (Cond.code (my 1026) (mb 1026) (mxl 1026) (mret 1026)) := rfl
set_option maxRecDepth 20000 in
theorem cw1027 : (seg 2)[66]? = some (Cond.code (my 1027) (mb 1027) (mxl 1027) (mret 1027)) := rfl
set_option maxRecDepth 20000 in
theorem cw1100 : (seg 4)[81]? = some (Cond.code (my 1100) (mb 1100) (mxl 1100) (mret 1100)) := rfl
set_option maxRecDepth 20000 in
theorem cw1101 : (seg 4)[238]? = some (Cond.code (my 1101) (mb 1101) (mxl 1101) (mret 1101)) := rfl
set_option maxRecDepth 20000 in
theorem cw1102 : (seg 5)[6]? = some (Cond.code (my 1102) (mb 1102) (mxl 1102) (mret 1102)) := rfl
set_option maxRecDepth 20000 in
theorem cw1103 : (seg 4)[235]? = some (Cond.code (my 1103) (mb 1103) (mxl 1103) (mret 1103)) := rfl
set_option maxRecDepth 20000 in
theorem cw1104 : (seg 5)[12]? = some (Cond.code (my 1104) (mb 1104) (mxl 1104) (mret 1104)) := rfl
set_option maxRecDepth 20000 in
theorem cw1105 : (seg 5)[9]? = some (Cond.code (my 1105) (mb 1105) (mxl 1105) (mret 1105)) := rfl
set_option maxRecDepth 20000 in
theorem cw1106 : (seg 5)[2]? = some (Cond.code (my 1106) (mb 1106) (mxl 1106) (mret 1106)) := rfl
set_option maxRecDepth 20000 in
theorem cw1107 : (seg 5)[16]? = some (Cond.code (my 1107) (mb 1107) (mxl 1107) (mret 1107)) := rfl
set_option maxRecDepth 20000 in
theorem cw1108 : (seg 5)[20]? = some (Cond.code (my 1108) (mb 1108) (mxl 1108) (mret 1108)) := rfl
set_option maxRecDepth 20000 in
theorem cw1109 : (seg 5)[24]? = some (Cond.code (my 1109) (mb 1109) (mxl 1109) (mret 1109)) := rfl
set_option maxRecDepth 20000 in
theorem cw1110 : (seg 5)[40]? = some (Cond.code (my 1110) (mb 1110) (mxl 1110) (mret 1110)) := rfl
set_option maxRecDepth 20000 in
theorem cw1111 : (seg 5)[44]? = some (Cond.code (my 1111) (mb 1111) (mxl 1111) (mret 1111)) := rfl
set_option maxRecDepth 20000 in
theorem cw1112 : (seg 5)[36]? = some (Cond.code (my 1112) (mb 1112) (mxl 1112) (mret 1112)) := rfl
set_option maxRecDepth 20000 in
theorem cw1113 : (seg 5)[32]? = some (Cond.code (my 1113) (mb 1113) (mxl 1113) (mret 1113)) := rfl
set_option maxRecDepth 20000 in
theorem cw1114 : (seg 5)[28]? = some (Cond.code (my 1114) (mb 1114) (mxl 1114) (mret 1114)) := rfl
set_option maxRecDepth 20000 in
theorem cw1115 : (seg 5)[48]? = some (Cond.code (my 1115) (mb 1115) (mxl 1115) (mret 1115)) := rfl
set_option maxRecDepth 20000 in
theorem cw1116 : (seg 5)[52]? = some (Cond.code (my 1116) (mb 1116) (mxl 1116) (mret 1116)) := rfl
set_option maxRecDepth 20000 in
theorem cw1117 : (seg 5)[56]? = some (Cond.code (my 1117) (mb 1117) (mxl 1117) (mret 1117)) := rfl
set_option maxRecDepth 20000 in
theorem cw1118 : (seg 5)[60]? = some (Cond.code (my 1118) (mb 1118) (mxl 1118) (mret 1118)) := rfl
set_option maxRecDepth 20000 in
theorem cw1119 : (seg 5)[168]? = some (Cond.code (my 1119) (mb 1119) (mxl 1119) (mret 1119)) := rfl
set_option maxRecDepth 20000 in
theorem cw1120 : (seg 5)[208]? = some (Cond.code (my 1120) (mb 1120) (mxl 1120) (mret 1120)) := rfl
set_option maxRecDepth 20000 in
theorem cw1121 : (seg 5)[164]? = some (Cond.code (my 1121) (mb 1121) (mxl 1121) (mret 1121)) := rfl
set_option maxRecDepth 20000 in
theorem cw1122 : (seg 5)[76]? = some (Cond.code (my 1122) (mb 1122) (mxl 1122) (mret 1122)) := rfl
set_option maxRecDepth 20000 in
theorem cw1123 : (seg 5)[80]? = some (Cond.code (my 1123) (mb 1123) (mxl 1123) (mret 1123)) := rfl
set_option maxRecDepth 20000 in
theorem cw1124 : (seg 5)[88]? = some (Cond.code (my 1124) (mb 1124) (mxl 1124) (mret 1124)) := rfl
set_option maxRecDepth 20000 in
theorem cw1125 : (seg 5)[72]? = some (Cond.code (my 1125) (mb 1125) (mxl 1125) (mret 1125)) := rfl
set_option maxRecDepth 20000 in
theorem cw1126 : (seg 5)[84]? = some (Cond.code (my 1126) (mb 1126) (mxl 1126) (mret 1126)) := rfl
set_option maxRecDepth 20000 in
theorem cw1127 : (seg 5)[96]? = some (Cond.code (my 1127) (mb 1127) (mxl 1127) (mret 1127)) := rfl
set_option maxRecDepth 20000 in
theorem cw1128 : (seg 5)[200]? = some (Cond.code (my 1128) (mb 1128) (mxl 1128) (mret 1128)) := rfl
set_option maxRecDepth 20000 in
theorem cw1129 : (seg 5)[108]? = some (Cond.code (my 1129) (mb 1129) (mxl 1129) (mret 1129)) := rfl
set_option maxRecDepth 20000 in
theorem cw1130 : (seg 5)[128]? = some (Cond.code (my 1130) (mb 1130) (mxl 1130) (mret 1130)) := rfl
set_option maxRecDepth 20000 in
theorem cw1131 : (seg 5)[116]? = some (Cond.code (my 1131) (mb 1131) (mxl 1131) (mret 1131)) := rfl
set_option maxRecDepth 20000 in
theorem cw1132 : (seg 5)[196]? = some (Cond.code (my 1132) (mb 1132) (mxl 1132) (mret 1132)) := rfl
set_option maxRecDepth 20000 in
theorem cw1133 : (seg 5)[192]? = some (Cond.code (my 1133) (mb 1133) (mxl 1133) (mret 1133)) := rfl
set_option maxRecDepth 20000 in
theorem cw1134 : (seg 5)[120]? = some (Cond.code (my 1134) (mb 1134) (mxl 1134) (mret 1134)) := rfl
set_option maxRecDepth 20000 in
theorem cw1135 : (seg 5)[132]? = some (Cond.code (my 1135) (mb 1135) (mxl 1135) (mret 1135)) := rfl
set_option maxRecDepth 20000 in
theorem cw1136 : (seg 5)[136]? = some (Cond.code (my 1136) (mb 1136) (mxl 1136) (mret 1136)) := rfl
set_option maxRecDepth 20000 in
theorem cw1137 : (seg 5)[143]? = some (Cond.code (my 1137) (mb 1137) (mxl 1137) (mret 1137)) := rfl
set_option maxRecDepth 20000 in
theorem cw1138 : (seg 5)[140]? = some (Cond.code (my 1138) (mb 1138) (mxl 1138) (mret 1138)) := rfl
set_option maxRecDepth 20000 in
theorem cw1139 : (seg 5)[148]? = some (Cond.code (my 1139) (mb 1139) (mxl 1139) (mret 1139)) := rfl
set_option maxRecDepth 20000 in
theorem cw1140 : (seg 5)[156]? = some (Cond.code (my 1140) (mb 1140) (mxl 1140) (mret 1140)) := rfl
set_option maxRecDepth 20000 in
theorem cw1141 : (seg 5)[160]? = some (Cond.code (my 1141) (mb 1141) (mxl 1141) (mret 1141)) := rfl
set_option maxRecDepth 20000 in
theorem cw1142 : (seg 5)[172]? = some (Cond.code (my 1142) (mb 1142) (mxl 1142) (mret 1142)) := rfl
set_option maxRecDepth 20000 in
theorem cw1143 : (seg 5)[176]? = some (Cond.code (my 1143) (mb 1143) (mxl 1143) (mret 1143)) := rfl
set_option maxRecDepth 20000 in
theorem cw1144 : (seg 5)[180]? = some (Cond.code (my 1144) (mb 1144) (mxl 1144) (mret 1144)) := rfl
set_option maxRecDepth 20000 in
theorem cw1145 : (seg 5)[184]? = some (Cond.code (my 1145) (mb 1145) (mxl 1145) (mret 1145)) := rfl
set_option maxRecDepth 20000 in
theorem cw1146 : (seg 5)[188]? = some (Cond.code (my 1146) (mb 1146) (mxl 1146) (mret 1146)) := rfl
set_option maxRecDepth 20000 in
theorem cw1147 : (seg 5)[112]? = some (Cond.code (my 1147) (mb 1147) (mxl 1147) (mret 1147)) := rfl
set_option maxRecDepth 20000 in
theorem cw1148 : (seg 5)[124]? = some (Cond.code (my 1148) (mb 1148) (mxl 1148) (mret 1148)) := rfl
set_option maxRecDepth 20000 in
theorem cw1149 : (seg 5)[152]? = some (Cond.code (my 1149) (mb 1149) (mxl 1149) (mret 1149)) := rfl
set_option maxRecDepth 20000 in
theorem cw1150 : (seg 5)[104]? = some (Cond.code (my 1150) (mb 1150) (mxl 1150) (mret 1150)) := rfl
set_option maxRecDepth 20000 in
theorem cw1151 : (seg 5)[92]? = some (Cond.code (my 1151) (mb 1151) (mxl 1151) (mret 1151)) := rfl
set_option maxRecDepth 20000 in
theorem cw1152 : (seg 5)[100]? = some (Cond.code (my 1152) (mb 1152) (mxl 1152) (mret 1152)) := rfl
set_option maxRecDepth 20000 in
theorem cw1153 : (seg 5)[68]? = some (Cond.code (my 1153) (mb 1153) (mxl 1153) (mret 1153)) := rfl
set_option maxRecDepth 20000 in
theorem cw1154 : (seg 5)[64]? = some (Cond.code (my 1154) (mb 1154) (mxl 1154) (mret 1154)) := rfl
set_option maxRecDepth 20000 in
theorem cw1155 : (seg 5)[204]? = some (Cond.code (my 1155) (mb 1155) (mxl 1155) (mret 1155)) := rfl
set_option maxRecDepth 20000 in
theorem cw1156 : (seg 5)[212]? = some (Cond.code (my 1156) (mb 1156) (mxl 1156) (mret 1156)) := rfl
set_option maxRecDepth 20000 in
theorem cw1157 : (seg 5)[216]? = some (Cond.code (my 1157) (mb 1157) (mxl 1157) (mret 1157)) := rfl
set_option maxRecDepth 20000 in
theorem cw1158 : (seg 5)[220]? = some (Cond.code (my 1158) (mb 1158) (mxl 1158) (mret 1158)) := rfl
set_option maxRecDepth 20000 in
theorem cw1159 : (seg 5)[224]? = some (Cond.code (my 1159) (mb 1159) (mxl 1159) (mret 1159)) := rfl
set_option maxRecDepth 20000 in
theorem cw1160 : (seg 5)[228]? = some (Cond.code (my 1160) (mb 1160) (mxl 1160) (mret 1160)) := rfl
set_option maxRecDepth 20000 in
theorem cw1161 : (seg 5)[232]? = some (Cond.code (my 1161) (mb 1161) (mxl 1161) (mret 1161)) := rfl
set_option maxRecDepth 20000 in
theorem cw1162 : (seg 5)[236]? = some (Cond.code (my 1162) (mb 1162) (mxl 1162) (mret 1162)) := rfl
set_option maxRecDepth 20000 in
theorem cw1163 : (seg 6)[0]? = some (Cond.code (my 1163) (mb 1163) (mxl 1163) (mret 1163)) := rfl
set_option maxRecDepth 20000 in
theorem cw1164 : (seg 6)[4]? = some (Cond.code (my 1164) (mb 1164) (mxl 1164) (mret 1164)) := rfl
set_option maxRecDepth 20000 in
theorem cw1165 : (seg 6)[8]? = some (Cond.code (my 1165) (mb 1165) (mxl 1165) (mret 1165)) := rfl
set_option maxRecDepth 20000 in
theorem cw1166 : (seg 6)[12]? = some (Cond.code (my 1166) (mb 1166) (mxl 1166) (mret 1166)) := rfl
theorem cwc0 : ∀ j, j < 5 → Cond.code (my (0 + j)) (mb (0 + j)) (mxl (0 + j)) (mret (0 + j)) ∈ lw_tbl := fun j hj => match j, hj with
  | 0, _ => seg_in _ _ (List.mem_of_getElem? cw0)
  | 1, _ => seg_in _ _ (List.mem_of_getElem? cw1)
  | 2, _ => seg_in _ _ (List.mem_of_getElem? cw2)
  | 3, _ => seg_in _ _ (List.mem_of_getElem? cw3)
  | 4, _ => seg_in _ _ (List.mem_of_getElem? cw4)
  | n + 5, h => absurd h (by omega)
theorem cwc1 : ∀ j, j < 6 → Cond.code (my (100 + j)) (mb (100 + j)) (mxl (100 + j)) (mret (100 + j)) ∈ lw_tbl := fun j hj => match j, hj with
  | 0, _ => seg_in _ _ (List.mem_of_getElem? cw100)
  | 1, _ => seg_in _ _ (List.mem_of_getElem? cw101)
  | 2, _ => seg_in _ _ (List.mem_of_getElem? cw102)
  | 3, _ => seg_in _ _ (List.mem_of_getElem? cw103)
  | 4, _ => seg_in _ _ (List.mem_of_getElem? cw104)
  | 5, _ => seg_in _ _ (List.mem_of_getElem? cw105)
  | n + 6, h => absurd h (by omega)
theorem cwc2 : ∀ j, j < 1 → Cond.code (my (200 + j)) (mb (200 + j)) (mxl (200 + j)) (mret (200 + j)) ∈ lw_tbl := fun j hj => match j, hj with
  | 0, _ => seg_in _ _ (List.mem_of_getElem? cw200)
  | n + 1, h => absurd h (by omega)
theorem cwc3 : ∀ j, j < 34 → Cond.code (my (300 + j)) (mb (300 + j)) (mxl (300 + j)) (mret (300 + j)) ∈ lw_tbl := fun j hj => match j, hj with
  | 0, _ => seg_in _ _ (List.mem_of_getElem? cw300)
  | 1, _ => seg_in _ _ (List.mem_of_getElem? cw301)
  | 2, _ => seg_in _ _ (List.mem_of_getElem? cw302)
  | 3, _ => seg_in _ _ (List.mem_of_getElem? cw303)
  | 4, _ => seg_in _ _ (List.mem_of_getElem? cw304)
  | 5, _ => seg_in _ _ (List.mem_of_getElem? cw305)
  | 6, _ => seg_in _ _ (List.mem_of_getElem? cw306)
  | 7, _ => seg_in _ _ (List.mem_of_getElem? cw307)
  | 8, _ => seg_in _ _ (List.mem_of_getElem? cw308)
  | 9, _ => seg_in _ _ (List.mem_of_getElem? cw309)
  | 10, _ => seg_in _ _ (List.mem_of_getElem? cw310)
  | 11, _ => seg_in _ _ (List.mem_of_getElem? cw311)
  | 12, _ => seg_in _ _ (List.mem_of_getElem? cw312)
  | 13, _ => seg_in _ _ (List.mem_of_getElem? cw313)
  | 14, _ => seg_in _ _ (List.mem_of_getElem? cw314)
  | 15, _ => seg_in _ _ (List.mem_of_getElem? cw315)
  | 16, _ => seg_in _ _ (List.mem_of_getElem? cw316)
  | 17, _ => seg_in _ _ (List.mem_of_getElem? cw317)
  | 18, _ => seg_in _ _ (List.mem_of_getElem? cw318)
  | 19, _ => seg_in _ _ (List.mem_of_getElem? cw319)
  | 20, _ => seg_in _ _ (List.mem_of_getElem? cw320)
  | 21, _ => seg_in _ _ (List.mem_of_getElem? cw321)
  | 22, _ => seg_in _ _ (List.mem_of_getElem? cw322)
  | 23, _ => seg_in _ _ (List.mem_of_getElem? cw323)
  | 24, _ => seg_in _ _ (List.mem_of_getElem? cw324)
  | 25, _ => seg_in _ _ (List.mem_of_getElem? cw325)
  | 26, _ => seg_in _ _ (List.mem_of_getElem? cw326)
  | 27, _ => seg_in _ _ (List.mem_of_getElem? cw327)
  | 28, _ => seg_in _ _ (List.mem_of_getElem? cw328)
  | 29, _ => seg_in _ _ (List.mem_of_getElem? cw329)
  | 30, _ => seg_in _ _ (List.mem_of_getElem? cw330)
  | 31, _ => seg_in _ _ (List.mem_of_getElem? cw331)
  | 32, _ => seg_in _ _ (List.mem_of_getElem? cw332)
  | 33, _ => seg_in _ _ (List.mem_of_getElem? cw333)
  | n + 34, h => absurd h (by omega)
theorem cwc4 : ∀ j, j < 5 → Cond.code (my (400 + j)) (mb (400 + j)) (mxl (400 + j)) (mret (400 + j)) ∈ lw_tbl := fun j hj => match j, hj with
  | 0, _ => seg_in _ _ (List.mem_of_getElem? cw400)
  | 1, _ => seg_in _ _ (List.mem_of_getElem? cw401)
  | 2, _ => seg_in _ _ (List.mem_of_getElem? cw402)
  | 3, _ => seg_in _ _ (List.mem_of_getElem? cw403)
  | 4, _ => seg_in _ _ (List.mem_of_getElem? cw404)
  | n + 5, h => absurd h (by omega)
theorem cwc5 : ∀ j, j < 5 → Cond.code (my (500 + j)) (mb (500 + j)) (mxl (500 + j)) (mret (500 + j)) ∈ lw_tbl := fun j hj => match j, hj with
  | 0, _ => seg_in _ _ (List.mem_of_getElem? cw500)
  | 1, _ => seg_in _ _ (List.mem_of_getElem? cw501)
  | 2, _ => seg_in _ _ (List.mem_of_getElem? cw502)
  | 3, _ => seg_in _ _ (List.mem_of_getElem? cw503)
  | 4, _ => seg_in _ _ (List.mem_of_getElem? cw504)
  | n + 5, h => absurd h (by omega)
theorem cwc6 : ∀ j, j < 5 → Cond.code (my (600 + j)) (mb (600 + j)) (mxl (600 + j)) (mret (600 + j)) ∈ lw_tbl := fun j hj => match j, hj with
  | 0, _ => seg_in _ _ (List.mem_of_getElem? cw600)
  | 1, _ => seg_in _ _ (List.mem_of_getElem? cw601)
  | 2, _ => seg_in _ _ (List.mem_of_getElem? cw602)
  | 3, _ => seg_in _ _ (List.mem_of_getElem? cw603)
  | 4, _ => seg_in _ _ (List.mem_of_getElem? cw604)
  | n + 5, h => absurd h (by omega)
theorem cwc7 : ∀ j, j < 6 → Cond.code (my (700 + j)) (mb (700 + j)) (mxl (700 + j)) (mret (700 + j)) ∈ lw_tbl := fun j hj => match j, hj with
  | 0, _ => seg_in _ _ (List.mem_of_getElem? cw700)
  | 1, _ => seg_in _ _ (List.mem_of_getElem? cw701)
  | 2, _ => seg_in _ _ (List.mem_of_getElem? cw702)
  | 3, _ => seg_in _ _ (List.mem_of_getElem? cw703)
  | 4, _ => seg_in _ _ (List.mem_of_getElem? cw704)
  | 5, _ => seg_in _ _ (List.mem_of_getElem? cw705)
  | n + 6, h => absurd h (by omega)
theorem cwc8 : ∀ j, j < 12 → Cond.code (my (800 + j)) (mb (800 + j)) (mxl (800 + j)) (mret (800 + j)) ∈ lw_tbl := fun j hj => match j, hj with
  | 0, _ => seg_in _ _ (List.mem_of_getElem? cw800)
  | 1, _ => seg_in _ _ (List.mem_of_getElem? cw801)
  | 2, _ => seg_in _ _ (List.mem_of_getElem? cw802)
  | 3, _ => seg_in _ _ (List.mem_of_getElem? cw803)
  | 4, _ => seg_in _ _ (List.mem_of_getElem? cw804)
  | 5, _ => seg_in _ _ (List.mem_of_getElem? cw805)
  | 6, _ => seg_in _ _ (List.mem_of_getElem? cw806)
  | 7, _ => seg_in _ _ (List.mem_of_getElem? cw807)
  | 8, _ => seg_in _ _ (List.mem_of_getElem? cw808)
  | 9, _ => seg_in _ _ (List.mem_of_getElem? cw809)
  | 10, _ => seg_in _ _ (List.mem_of_getElem? cw810)
  | 11, _ => seg_in _ _ (List.mem_of_getElem? cw811)
  | n + 12, h => absurd h (by omega)
theorem cwc9 : ∀ j, j < 8 → Cond.code (my (900 + j)) (mb (900 + j)) (mxl (900 + j)) (mret (900 + j)) ∈ lw_tbl := fun j hj => match j, hj with
  | 0, _ => seg_in _ _ (List.mem_of_getElem? cw900)
  | 1, _ => seg_in _ _ (List.mem_of_getElem? cw901)
  | 2, _ => seg_in _ _ (List.mem_of_getElem? cw902)
  | 3, _ => seg_in _ _ (List.mem_of_getElem? cw903)
  | 4, _ => seg_in _ _ (List.mem_of_getElem? cw904)
  | 5, _ => seg_in _ _ (List.mem_of_getElem? cw905)
  | 6, _ => seg_in _ _ (List.mem_of_getElem? cw906)
  | 7, _ => seg_in _ _ (List.mem_of_getElem? cw907)
  | n + 8, h => absurd h (by omega)
theorem cwc10 : ∀ j, j < 28 → Cond.code (my (1000 + j)) (mb (1000 + j)) (mxl (1000 + j)) (mret (1000 + j)) ∈ lw_tbl := fun j hj => match j, hj with
  | 0, _ => seg_in _ _ (List.mem_of_getElem? cw1000)
  | 1, _ => seg_in _ _ (List.mem_of_getElem? cw1001)
  | 2, _ => seg_in _ _ (List.mem_of_getElem? cw1002)
  | 3, _ => seg_in _ _ (List.mem_of_getElem? cw1003)
  | 4, _ => seg_in _ _ (List.mem_of_getElem? cw1004)
  | 5, _ => seg_in _ _ (List.mem_of_getElem? cw1005)
  | 6, _ => seg_in _ _ (List.mem_of_getElem? cw1006)
  | 7, _ => seg_in _ _ (List.mem_of_getElem? cw1007)
  | 8, _ => seg_in _ _ (List.mem_of_getElem? cw1008)
  | 9, _ => seg_in _ _ (List.mem_of_getElem? cw1009)
  | 10, _ => seg_in _ _ (List.mem_of_getElem? cw1010)
  | 11, _ => seg_in _ _ (List.mem_of_getElem? cw1011)
  | 12, _ => seg_in _ _ (List.mem_of_getElem? cw1012)
  | 13, _ => seg_in _ _ (List.mem_of_getElem? cw1013)
  | 14, _ => seg_in _ _ (List.mem_of_getElem? cw1014)
  | 15, _ => seg_in _ _ (List.mem_of_getElem? cw1015)
  | 16, _ => seg_in _ _ (List.mem_of_getElem? cw1016)
  | 17, _ => seg_in _ _ (List.mem_of_getElem? cw1017)
  | 18, _ => seg_in _ _ (List.mem_of_getElem? cw1018)
  | 19, _ => seg_in _ _ (List.mem_of_getElem? cw1019)
  | 20, _ => seg_in _ _ (List.mem_of_getElem? cw1020)
  | 21, _ => seg_in _ _ (List.mem_of_getElem? cw1021)
  | 22, _ => seg_in _ _ (List.mem_of_getElem? cw1022)
  | 23, _ => seg_in _ _ (List.mem_of_getElem? cw1023)
  | 24, _ => seg_in _ _ (List.mem_of_getElem? cw1024)
  | 25, _ => seg_in _ _ (List.mem_of_getElem? cw1025)
  | 26, _ => seg_in _ _ (List.mem_of_getElem? cw1026)
  | 27, _ => seg_in _ _ (List.mem_of_getElem? cw1027)
  | n + 28, h => absurd h (by omega)
theorem cwc11 : ∀ j, j < 67 → Cond.code (my (1100 + j)) (mb (1100 + j)) (mxl (1100 + j)) (mret (1100 + j)) ∈ lw_tbl := fun j hj => match j, hj with
  | 0, _ => seg_in _ _ (List.mem_of_getElem? cw1100)
  | 1, _ => seg_in _ _ (List.mem_of_getElem? cw1101)
  | 2, _ => seg_in _ _ (List.mem_of_getElem? cw1102)
  | 3, _ => seg_in _ _ (List.mem_of_getElem? cw1103)
  | 4, _ => seg_in _ _ (List.mem_of_getElem? cw1104)
  | 5, _ => seg_in _ _ (List.mem_of_getElem? cw1105)
  | 6, _ => seg_in _ _ (List.mem_of_getElem? cw1106)
  | 7, _ => seg_in _ _ (List.mem_of_getElem? cw1107)
  | 8, _ => seg_in _ _ (List.mem_of_getElem? cw1108)
  | 9, _ => seg_in _ _ (List.mem_of_getElem? cw1109)
  | 10, _ => seg_in _ _ (List.mem_of_getElem? cw1110)
  | 11, _ => seg_in _ _ (List.mem_of_getElem? cw1111)
  | 12, _ => seg_in _ _ (List.mem_of_getElem? cw1112)
  | 13, _ => seg_in _ _ (List.mem_of_getElem? cw1113)
  | 14, _ => seg_in _ _ (List.mem_of_getElem? cw1114)
  | 15, _ => seg_in _ _ (List.mem_of_getElem? cw1115)
  | 16, _ => seg_in _ _ (List.mem_of_getElem? cw1116)
  | 17, _ => seg_in _ _ (List.mem_of_getElem? cw1117)
  | 18, _ => seg_in _ _ (List.mem_of_getElem? cw1118)
  | 19, _ => seg_in _ _ (List.mem_of_getElem? cw1119)
  | 20, _ => seg_in _ _ (List.mem_of_getElem? cw1120)
  | 21, _ => seg_in _ _ (List.mem_of_getElem? cw1121)
  | 22, _ => seg_in _ _ (List.mem_of_getElem? cw1122)
  | 23, _ => seg_in _ _ (List.mem_of_getElem? cw1123)
  | 24, _ => seg_in _ _ (List.mem_of_getElem? cw1124)
  | 25, _ => seg_in _ _ (List.mem_of_getElem? cw1125)
  | 26, _ => seg_in _ _ (List.mem_of_getElem? cw1126)
  | 27, _ => seg_in _ _ (List.mem_of_getElem? cw1127)
  | 28, _ => seg_in _ _ (List.mem_of_getElem? cw1128)
  | 29, _ => seg_in _ _ (List.mem_of_getElem? cw1129)
  | 30, _ => seg_in _ _ (List.mem_of_getElem? cw1130)
  | 31, _ => seg_in _ _ (List.mem_of_getElem? cw1131)
  | 32, _ => seg_in _ _ (List.mem_of_getElem? cw1132)
  | 33, _ => seg_in _ _ (List.mem_of_getElem? cw1133)
  | 34, _ => seg_in _ _ (List.mem_of_getElem? cw1134)
  | 35, _ => seg_in _ _ (List.mem_of_getElem? cw1135)
  | 36, _ => seg_in _ _ (List.mem_of_getElem? cw1136)
  | 37, _ => seg_in _ _ (List.mem_of_getElem? cw1137)
  | 38, _ => seg_in _ _ (List.mem_of_getElem? cw1138)
  | 39, _ => seg_in _ _ (List.mem_of_getElem? cw1139)
  | 40, _ => seg_in _ _ (List.mem_of_getElem? cw1140)
  | 41, _ => seg_in _ _ (List.mem_of_getElem? cw1141)
  | 42, _ => seg_in _ _ (List.mem_of_getElem? cw1142)
  | 43, _ => seg_in _ _ (List.mem_of_getElem? cw1143)
  | 44, _ => seg_in _ _ (List.mem_of_getElem? cw1144)
  | 45, _ => seg_in _ _ (List.mem_of_getElem? cw1145)
  | 46, _ => seg_in _ _ (List.mem_of_getElem? cw1146)
  | 47, _ => seg_in _ _ (List.mem_of_getElem? cw1147)
  | 48, _ => seg_in _ _ (List.mem_of_getElem? cw1148)
  | 49, _ => seg_in _ _ (List.mem_of_getElem? cw1149)
  | 50, _ => seg_in _ _ (List.mem_of_getElem? cw1150)
  | 51, _ => seg_in _ _ (List.mem_of_getElem? cw1151)
  | 52, _ => seg_in _ _ (List.mem_of_getElem? cw1152)
  | 53, _ => seg_in _ _ (List.mem_of_getElem? cw1153)
  | 54, _ => seg_in _ _ (List.mem_of_getElem? cw1154)
  | 55, _ => seg_in _ _ (List.mem_of_getElem? cw1155)
  | 56, _ => seg_in _ _ (List.mem_of_getElem? cw1156)
  | 57, _ => seg_in _ _ (List.mem_of_getElem? cw1157)
  | 58, _ => seg_in _ _ (List.mem_of_getElem? cw1158)
  | 59, _ => seg_in _ _ (List.mem_of_getElem? cw1159)
  | 60, _ => seg_in _ _ (List.mem_of_getElem? cw1160)
  | 61, _ => seg_in _ _ (List.mem_of_getElem? cw1161)
  | 62, _ => seg_in _ _ (List.mem_of_getElem? cw1162)
  | 63, _ => seg_in _ _ (List.mem_of_getElem? cw1163)
  | 64, _ => seg_in _ _ (List.mem_of_getElem? cw1164)
  | 65, _ => seg_in _ _ (List.mem_of_getElem? cw1165)
  | 66, _ => seg_in _ _ (List.mem_of_getElem? cw1166)
  | n + 67, h => absurd h (by omega)
theorem ckY0 : ((List.range tbY0.length).all fun j => okm (0 + j)) = true := by decide +kernel
theorem ckY1 : ((List.range tbY1.length).all fun j => okm (100 + j)) = true := by decide +kernel
theorem ckY2 : ((List.range tbY2.length).all fun j => okm (200 + j)) = true := by decide +kernel
theorem ckY3 : ((List.range tbY3.length).all fun j => okm (300 + j)) = true := by decide +kernel
theorem ckY4 : ((List.range tbY4.length).all fun j => okm (400 + j)) = true := by decide +kernel
theorem ckY5 : ((List.range tbY5.length).all fun j => okm (500 + j)) = true := by decide +kernel
theorem ckY6 : ((List.range tbY6.length).all fun j => okm (600 + j)) = true := by decide +kernel
theorem ckY7 : ((List.range tbY7.length).all fun j => okm (700 + j)) = true := by decide +kernel
theorem ckY8 : ((List.range tbY8.length).all fun j => okm (800 + j)) = true := by decide +kernel
theorem ckY9 : ((List.range tbY9.length).all fun j => okm (900 + j)) = true := by decide +kernel
theorem ckY10 : ((List.range tbY10.length).all fun j => okm (1000 + j)) = true := by decide +kernel
theorem ckY11 : ((List.range tbY11.length).all fun j => okm (1100 + j)) = true := by decide +kernel
def ckK : Bool := (List.range 13).all fun own => (tbK own).all fun e => at_ e.2.2 (.classLink (cname own) e.1 (cname e.2.1)) && decide (e.2.1 < 12)
def ckC : Bool := (List.range 13).all fun own => (tbC own).all fun e => at_ e.2.2 (.constant (cname own) e.1 e.2.1)
def ckI : Bool := (List.range 13).all fun c => at_ (tbI.getD c (0, 0)).1 (.initialized (cname c))
def ckN : Bool := (List.range 12).all fun c => at_ (tbI.getD c (0, 0)).2 (.instantiable (cname c) (fnum c))
def ckL : Bool := (List.range 12).all fun c => (List.range (fnum c)).all fun k => at_ ((tbL c).getD k 0) (u_lay (cname c) (ftab c) k)
def ckO : Bool := tbO.all fun e => at_ e.2 (.arrayOver (.object (cname e.1))) && decide (e.1 < 12)
theorem ckF_ok : ckF = true := by decide +kernel
theorem ckS_ok : ckS = true := by decide +kernel
theorem ckK_ok : ckK = true := by decide +kernel
theorem ckC_ok : ckC = true := by decide +kernel
theorem ckI_ok : ckI = true := by decide +kernel
theorem ckN_ok : ckN = true := by decide +kernel
theorem ckL_ok : ckL = true := by decide +kernel
theorem ckO_ok : ckO = true := by decide +kernel
theorem ckM_ok : ckM = true := by decide +kernel
theorem ckX : (at_ 10054 (.arrayClass .int) && at_ 20192 (.static Lib.Math.max.name) && at_ 10011 (.initialized "java/lang/Math") && at_ 20193 (.code Lib.Math.max.name Lib.Math.max.code 2 (some .int)) && at_ 20172 (.native arraycopyName) && at_ 20171 (.static arraycopyName) && at_ 10010 (.initialized "java/lang/System") && at_ 10021 (.instanceMethod objectInit) && at_ 10022 (.code objectInit ⟨#[0xb1]⟩ 1 none)) = true := by decide +kernel
theorem nm_all : ∀ c, c < 12 → ∀ a, a < fnum c → ∀ b, b < fnum c → a ≠ b → (ftab c a).2.1 ≠ (ftab c b).2.1 := fun c hc => match c, hc with
  | 0, _ => nmX0
  | 1, _ => nmX1
  | 2, _ => nmX2
  | 3, _ => nmX3
  | 4, _ => nmX4
  | 5, _ => nmX5
  | 6, _ => nmX6
  | 7, _ => nmX7
  | 8, _ => nmX8
  | 9, _ => nmX9
  | 10, _ => nmX10
  | 11, _ => nmX11
  | n + 12, h => absurd h (by omega)
theorem ty_all : ∀ c, c < 12 → ∀ k, k < fnum c → parseFieldDescriptor (ftab c k).2.2.1 = some (fty c k) := fun c hc => match c, hc with
  | 0, _ => tyX0_ok
  | 1, _ => tyX1_ok
  | 2, _ => tyX2_ok
  | 3, _ => tyX3_ok
  | 4, _ => tyX4_ok
  | 5, _ => tyX5_ok
  | 6, _ => tyX6_ok
  | 7, _ => tyX7_ok
  | 8, _ => tyX8_ok
  | 9, _ => tyX9_ok
  | 10, _ => tyX10_ok
  | 11, _ => tyX11_ok
  | n + 12, h => absurd h (by omega)
theorem all_rg {n : Nat} {f : Nat → Bool} (h : (List.range n).all f = true) {k : Nat} (hk : k < n) : f k = true := List.all_eq_true.mp h k (List.mem_range.mpr hk)
theorem find_at {α β : Type} {l : List (Nat × α × β)} {idx : Nat} {v : α} (h : (l.find? (fun e => e.1 == idx)).map (fun e => e.2.1) = some v) : ∃ e ∈ l, e.1 = idx ∧ e.2.1 = v := by
  cases hf : l.find? (fun e => e.1 == idx) with
  | none => rw [hf] at h; cases h
  | some e =>
    rw [hf] at h
    exact ⟨e, List.mem_of_find?_eq_some hf, by simpa using List.find?_some hf, Option.some.inj h⟩
theorem cw_all {t : Nat} (h : t / 100 < 12) (h2 : t % 100 < (tbY (t / 100)).length) : Cond.code (my t) (mb t) (mxl t) (mret t) ∈ lw_tbl := by
  have e : t = 100 * (t / 100) + t % 100 := by omega
  generalize t / 100 = c at h h2 e
  generalize t % 100 = j at h2 e
  subst e
  match c, h, h2 with
  | 0, _, h2 => exact cwc0 j h2
  | 1, _, h2 => exact cwc1 j h2
  | 2, _, h2 => exact cwc2 j h2
  | 3, _, h2 => exact cwc3 j h2
  | 4, _, h2 => exact cwc4 j h2
  | 5, _, h2 => exact cwc5 j h2
  | 6, _, h2 => exact cwc6 j h2
  | 7, _, h2 => exact cwc7 j h2
  | 8, _, h2 => exact cwc8 j h2
  | 9, _, h2 => exact cwc9 j h2
  | 10, _, h2 => exact cwc10 j h2
  | 11, _, h2 => exact cwc11 j h2
  | n + 12, h, _ => exact absurd h (by omega)
theorem okm_all {t : Nat} (h : t / 100 < 12) (h2 : t % 100 < (tbY (t / 100)).length) : okm t = true := by
  have e : t = 100 * (t / 100) + t % 100 := by omega
  generalize t / 100 = c at h h2 e
  generalize t % 100 = j at h2 e
  subst e
  match c, h, h2 with
  | 0, _, h2 => exact all_rg ckY0 h2
  | 1, _, h2 => exact all_rg ckY1 h2
  | 2, _, h2 => exact all_rg ckY2 h2
  | 3, _, h2 => exact all_rg ckY3 h2
  | 4, _, h2 => exact all_rg ckY4 h2
  | 5, _, h2 => exact all_rg ckY5 h2
  | 6, _, h2 => exact all_rg ckY6 h2
  | 7, _, h2 => exact all_rg ckY7 h2
  | 8, _, h2 => exact all_rg ckY8 h2
  | 9, _, h2 => exact all_rg ckY9 h2
  | 10, _, h2 => exact all_rg ckY10 h2
  | 11, _, h2 => exact all_rg ckY11 h2
  | n + 12, h, _ => exact absurd h (by omega)
theorem lkF_ok {own idx : Nat} {f : Nat × Nat × Bool} (ho : own < 13) (h : lkF own idx = some f) : wF own idx f ∈ lw_tbl ∧ f.1 < 12 ∧ f.2.1 < fnum f.1 ∧ (ftab f.1 f.2.1).1 = cname f.1 := by
  obtain ⟨e, he, rfl, rfl⟩ := find_at h
  have := List.all_eq_true.mp (all_rg ckF_ok ho) e he
  simp only [Bool.and_eq_true, decide_eq_true_eq] at this
  exact ⟨at_mem this.1.1.1, this.1.1.2, this.1.2, this.2⟩
theorem lkS_ok {own idx : Nat} {f : Nat × Bool} (ho : own < 13) (h : lkS own idx = some f) : wSt own idx f ∈ lw_tbl ∧ (f.1 = 2 ∨ f.1 = 3) := by
  obtain ⟨e, he, rfl, rfl⟩ := find_at h
  have := List.all_eq_true.mp (all_rg ckS_ok ho) e he
  simp only [Bool.and_eq_true, Bool.or_eq_true, beq_iff_eq] at this
  exact ⟨at_mem this.1, this.2⟩
theorem lkM_ok {own idx : Nat} {t : Nat × Bool} (ho : own < 13) (h : lkM own idx = some t) : wM own idx t ∈ lw_tbl ∧ (t.1 < 9000 → okm t.1 = true ∧ Cond.code (my t.1) (mb t.1) (mxl t.1) (mret t.1) ∈ lw_tbl) := by
  obtain ⟨e, he, rfl, rfl⟩ := find_at h
  have := List.all_eq_true.mp (all_rg ckM_ok ho) e he
  simp only [Bool.and_eq_true] at this
  refine ⟨at_mem this.1, fun hlt => ?_⟩
  have h2 := this.2
  rw [decide_eq_true hlt] at h2
  simp only [okl, Bool.and_eq_true, decide_eq_true_eq] at h2
  exact ⟨okm_all h2.1 h2.2, cw_all h2.1 h2.2⟩
theorem lkK_ok {own idx ci : Nat} (ho : own < 13) (h : lkK own idx = some ci) : Cond.classLink (cname own) idx (cname ci) ∈ lw_tbl ∧ ci < 12 := by
  obtain ⟨e, he, rfl, rfl⟩ := find_at h
  have := List.all_eq_true.mp (all_rg ckK_ok ho) e he
  simp only [Bool.and_eq_true, decide_eq_true_eq] at this
  exact ⟨at_mem this.1, this.2⟩
theorem lkC_ok {own idx : Nat} {v : Int32} (ho : own < 13) (h : lkC own idx = some v) : Cond.constant (cname own) idx v ∈ lw_tbl := by
  obtain ⟨e, he, rfl, rfl⟩ := find_at h
  exact at_mem (List.all_eq_true.mp (all_rg ckC_ok ho) e he)
theorem lkO_ok {ci : Nat} (h : lkO ci = true) : Cond.arrayOver (.object (cname ci)) ∈ lw_tbl ∧ ci < 12 := by
  obtain ⟨e, he, h1⟩ := List.any_eq_true.mp h
  have := List.all_eq_true.mp ckO_ok e he
  simp only [Bool.and_eq_true, decide_eq_true_eq] at this
  have e1 : e.1 = ci := by simpa using h1
  rw [e1] at this
  exact ⟨at_mem this.1, this.2⟩
/-- the words that stay good, and those of nest mates -/
def GW : List Cond := lw_tbl.filter goodWord
def WS (m : Nat) : List Cond := Cond.code (my m) (mb m) (mxl m) (mret m) :: GW
theorem gw {w : Cond} (h : w ∈ lw_tbl) (hg : goodWord w = true) : w ∈ GW := List.mem_filter.mpr ⟨h, hg⟩
def isNest (w : Cond) : Bool := match w with
  | .fieldLinkNest _ _ _ _ _ _ => true
  | .methodLinkNest _ _ _ _ => true
  | _ => false
def NW (s : State) : Prop := ∀ w ∈ lw_tbl, isNest w = true → va_Nw w s
theorem NW.warm {s U : State} (hW : s.WarmedH U.vm) (h : NW s) : NW U := by
  intro w hw hn
  cases w with
  | fieldLinkNest a i b n d hh => exact va_Nw.warmF hW (h _ hw hn)
  | methodLinkNest a i x hh => exact va_Nw.warmM hW (h _ hw hn)
  | _ => cases hn
theorem NW.same {s U : State} (hv : s.vm = U.vm) (h : NW s) : NW U := by
  intro w hw hn
  cases w with
  | fieldLinkNest a i b n d hh => exact va_Nw.same rfl hv (h _ hw hn)
  | methodLinkNest a i x hh => exact va_Nw.same rfl hv (h _ hw hn)
  | _ => cases hn
theorem goodIn_WS (m m' : Nat) (h : Cond.code (my m') (mb m') (mxl m') (mret m') ∈ lw_tbl) : GoodIn (WS m) (WS m') := by
  intro w hw
  rcases List.mem_cons.mp hw with rfl | hw
  · exact ⟨List.mem_cons_of_mem _ (gw h rfl), Or.inl rfl⟩
  · exact ⟨List.mem_cons_of_mem _ hw, good_of_word (List.mem_filter.mp hw).2⟩
theorem u_in {c : Nat} (hc : c < 12) : ∀ w ∈ u_ws (cname c) (ftab c) (fnum c), w ∈ GW := by
  intro w hw
  obtain ⟨k, hk, rfl⟩ := List.mem_map.mp hw
  refine gw (at_mem (List.all_eq_true.mp (all_rg ckL_ok hc) k hk)) ?_
  unfold u_lay
  split <;> rfl
theorem w_init {c : Nat} (hc : c < 13) : Cond.initialized (cname c) ∈ GW := gw (at_mem (all_rg ckI_ok hc)) rfl
theorem w_inst {c : Nat} (hc : c < 12) : Cond.instantiable (cname c) (fnum c) ∈ GW := gw (at_mem (all_rg ckN_ok hc)) rfl
end
section
/-! SOUNDNESS 2: the heap -/
/-- where the made cells begin; where the arrays of before lie; the classes; the class of int arrays, of arrays of references; what the arrays of before hold -/
abbrev SG : Type := Nat × (Nat → Nat) × va_G × ClassId × (Nat → ClassId) × (Nat → Nat) × (Nat → Nat → Int32)
def g_sz (G : SG) : Nat := G.1
def g_xa (G : SG) : Nat → Nat := G.2.1
def g_D (G : SG) : va_G := G.2.2.1
def g_cI (G : SG) : ClassId := G.2.2.2.1
def g_cR (G : SG) : Nat → ClassId := G.2.2.2.2.1
def g_xl (G : SG) : Nat → Nat := G.2.2.2.2.2.1
def g_xi (G : SG) : Nat → Nat → Int32 := G.2.2.2.2.2.2
def adr (G : SG) (a : Nat) : Nat := if a < 4 then g_xa G a else g_sz G + (a - 4)
def rfo (G : SG) (a : Nat) : Option Nat := if a = 0 then none else some (adr G a)
def vv (G : SG) (v : Value) : Value := match v with
  | .ref a => va_rf (rfo G a)
  | v => v
def cls : List vw_C := (List.range 12).map fun c => (cname c, ftab c, fnum c)
def tys (G : SG) : List (ClassId × FieldType) := (g_cI G, .int) :: tbO.map (fun e => (g_cR G e.1, .object (cname e.1)))
def flds (G : SG) (h : HP) (ci a : Nat) : List Value := (List.range (fnum ci)).map fun k => vv G (fval (fty ci k) h a k)
def pce (G : SG) (h : HP) (a : Nat) : va_E := if hp_k h a = 100 then .inl (g_cI G, hp_l h a, .inl (fun j => hp_i h a j)) else if 200 ≤ hp_k h a then .inl (g_cR G (hp_k h a - 200), hp_l h a, .inr (.inr (.inr (.inr (fun j => rfo G (hp_a h a j)))))) else .inr (hp_k h a - 1, flds G h (hp_k h a - 1) a)
def wso (G : SG) (h : HP) : va_W := (List.range (hp_n h - 4)).map fun i => (g_sz G + i, pce G h (i + 4))
def okt (t : Nat) : Bool := (decide (1 ≤ t) && decide (t ≤ 12)) || t == 100 || (decide (200 ≤ t) && lkO (t - 200))
def WF (G : SG) (h : HP) : Prop := 4 ≤ hp_n h ∧ (∀ a, 4 ≤ a → a < hp_n h → okt (hp_k h a) = true) ∧ (∀ a, hp_n h ≤ a → hp_k h a = 0) ∧ hp_k h 0 = 0 ∧ ∀ a, 1 ≤ a → a < 4 → hp_k h a = 99 ∧ hp_l h a = g_xl G a ∧ ∀ j, hp_i h a j = g_xi G a j
theorem cls_at {c : Nat} (hc : c < 12) : cls[c]? = some (cname c, ftab c, fnum c) := by simp [cls, List.getElem?_range hc]
theorem tys_at (G : SG) {ci : Nat} (h : lkO ci = true) : ∃ t0 : Nat, (tys G)[t0]? = some (g_cR G ci, FieldType.object (cname ci)) := by
  obtain ⟨e, he, h1⟩ := List.any_eq_true.mp h
  have e1 : e.1 = ci := by simpa using h1
  obtain ⟨i, hi⟩ := List.getElem?_of_mem he
  exact ⟨i + 1, by simp [tys, hi, e1]⟩
theorem WF.tag {G : SG} {h : HP} (w : WF G h) {a t : Nat} (hk : hp_k h a = t) (h0 : t ≠ 0) (h9 : t ≠ 99) : 4 ≤ a ∧ a < hp_n h := by
  obtain ⟨_, _, w3, w4, w5⟩ := w
  refine ⟨?_, ?_⟩
  · rcases Nat.lt_or_ge a 4 with q | q
    · rcases Nat.eq_zero_or_pos a with rfl | q2
      · exact absurd (hk.symm.trans w4) h0
      · exact absurd (hk.symm.trans (w5 a q2 q).1) h9
    · exact q
  · rcases Nat.lt_or_ge a (hp_n h) with q | q
    · exact q
    · exact absurd (hk.symm.trans (w3 a q)) h0
theorem wso_get (G : SG) (h : HP) (i : Nat) (hi : i < hp_n h - 4) : (wso G h)[i]? = some (g_sz G + i, pce G h (i + 4)) := by simp [wso, List.getElem?_range hi]
theorem wso_len (G : SG) (h : HP) : (wso G h).length = hp_n h - 4 := by simp [wso]
theorem adr_ge (G : SG) {a : Nat} (ha : 4 ≤ a) : adr G a = g_sz G + (a - 4) := if_neg (by omega)
theorem wso_at {G : SG} {h : HP} {a : Nat} (h1 : 4 ≤ a) (h2 : a < hp_n h) : (wso G h)[a - 4]? = some (adr G a, pce G h a) := by
  rw [wso_get G h (a - 4) (by omega), adr_ge G h1, show a - 4 + 4 = a by omega]
theorem obj_at {G : SG} {h : HP} (w : WF G h) {a ci : Nat} (hk : hp_k h a = ci + 1) (hc : ci < 12) : (wso G h)[a - 4]? = some (adr G a, .inr (ci, flds G h ci a)) := by
  obtain ⟨h1, h2⟩ := w.tag hk (by omega) (by omega)
  rw [wso_at h1 h2]
  simp [pce, hk, show ¬ ci + 1 = 100 by omega, show ¬ 200 ≤ ci + 1 by omega]
theorem arr_at {G : SG} {h : HP} (w : WF G h) {a : Nat} (hk : hp_k h a = 100) : (wso G h)[a - 4]? = some (adr G a, .inl (g_cI G, hp_l h a, .inl (fun j => hp_i h a j))) := by
  obtain ⟨h1, h2⟩ := w.tag hk (by omega) (by omega)
  rw [wso_at h1 h2]
  simp [pce, hk]
theorem rar_at {G : SG} {h : HP} (w : WF G h) {a : Nat} (hk : 200 ≤ hp_k h a) : (wso G h)[a - 4]? = some (adr G a, .inl (g_cR G (hp_k h a - 200), hp_l h a, .inr (.inr (.inr (.inr (fun j => rfo G (hp_a h a j))))))) := by
  obtain ⟨h1, h2⟩ := w.tag (t := hp_k h a) rfl (by omega) (by omega)
  rw [wso_at h1 h2]
  simp [pce, hk, show ¬ hp_k h a = 100 by omega]
theorem rar_ok {G : SG} {h : HP} (w : WF G h) {a : Nat} (hk : 200 ≤ hp_k h a) : lkO (hp_k h a - 200) = true := by
  obtain ⟨h1, h2⟩ := w.tag (t := hp_k h a) rfl (by omega) (by omega)
  have := w.2.1 a h1 h2
  simp only [okt, Bool.or_eq_true, Bool.and_eq_true, decide_eq_true_eq, beq_iff_eq] at this
  rcases this with (h3 | h3) | h3
  · omega
  · omega
  · exact h3.2
theorem wso_set {G : SG} {h h' : HP} {a : Nat} {c : va_E} (hn : hp_n h' = hp_n h) (ha : 4 ≤ a) (hc : pce G h' a = c) (ho : ∀ b, b ≠ a → pce G h' b = pce G h b) : (wso G h).set (a - 4) (adr G a, c) = wso G h' := by
  refine List.ext_getElem? fun i => ?_
  by_cases hi : i < hp_n h - 4
  · rw [wso_get G h' i (by rw [hn]; exact hi)]
    by_cases e : a - 4 = i
    · subst e
      rw [List.getElem?_set_self (by rw [wso_len]; exact hi), adr_ge G ha, ← hc, show a - 4 + 4 = a by omega]
    · rw [List.getElem?_set_ne e, wso_get G h i hi, ho (i + 4) (by omega)]
  · rw [List.getElem?_eq_none (by rw [List.length_set, wso_len]; omega), List.getElem?_eq_none (by rw [wso_len, hn]; omega)]
theorem pce_wi {G : SG} {h : HP} {a k b : Nat} {x : Int32} (hb : b ≠ a) : pce G (hp_wi h a k x) b = pce G h b := by
  have e : ∀ j, hp_i (hp_wi h a k x) b j = hp_i h b j := fun j => by rw [hp_i_wi, if_neg (fun q => hb q.1)]
  have f : flds G (hp_wi h a k x) (hp_k h b - 1) b = flds G h (hp_k h b - 1) b := by
    unfold flds
    refine List.map_congr_left fun j _ => ?_
    unfold fval
    split <;> simp [e, hp_a_wi]
  simp only [pce, hp_k_wi, hp_l_wi, hp_a_wi, e, f]
theorem pce_wa {G : SG} {h : HP} {a k b v : Nat} (hb : b ≠ a) : pce G (hp_wa h a k v) b = pce G h b := by
  have e : ∀ j, hp_a (hp_wa h a k v) b j = hp_a h b j := fun j => by rw [hp_a_wa, if_neg (fun q => hb q.1)]
  have f : flds G (hp_wa h a k v) (hp_k h b - 1) b = flds G h (hp_k h b - 1) b := by
    unfold flds
    refine List.map_congr_left fun j _ => ?_
    unfold fval
    split <;> simp [e, hp_i_wa]
  simp only [pce, hp_k_wa, hp_l_wa, hp_i_wa, e, f]
theorem WF.wi {G : SG} {h : HP} (w : WF G h) {a k : Nat} {x : Int32} (ha : 4 ≤ a) : WF G (hp_wi h a k x) := by
  obtain ⟨w1, w2, w3, w4, w5⟩ := w
  refine ⟨w1, w2, w3, w4, fun b h1 h2 => ⟨(w5 b h1 h2).1, (w5 b h1 h2).2.1, fun j => ?_⟩⟩
  rw [hp_i_wi, if_neg (fun q => by omega)]
  exact (w5 b h1 h2).2.2 j
theorem WF.wa {G : SG} {h : HP} (w : WF G h) {a k v : Nat} : WF G (hp_wa h a k v) := w
theorem flds_len (G : SG) (h : HP) (ci a : Nat) : (flds G h ci a).length = fnum ci := by simp [flds]
theorem flds_at (G : SG) (h : HP) {ci k : Nat} (a : Nat) (hk : k < fnum ci) : (flds G h ci a)[k]? = some (vv G (fval (fty ci k) h a k)) := by simp [flds, List.getElem?_range hk]
theorem flds_set {G : SG} {h h' : HP} {ci a k : Nat} {v : Value} (hk : k < fnum ci) (hv : vv G (fval (fty ci k) h' a k) = v) (ho : ∀ j, j ≠ k → fval (fty ci j) h' a j = fval (fty ci j) h a j) : flds G h' ci a = (flds G h ci a).set k v := by
  refine List.ext_getElem? fun i => ?_
  by_cases hi : i < fnum ci
  · rw [flds_at G h' a hi]
    by_cases e : k = i
    · subst e
      rw [List.getElem?_set_self (by rw [flds_len]; exact hi), hv]
    · rw [List.getElem?_set_ne e, flds_at G h a hi, ho i (fun q => e q.symm)]
  · rw [List.getElem?_eq_none (by rw [flds_len]; omega), List.getElem?_eq_none (by rw [List.length_set, flds_len]; omega)]
theorem wso_D (G : SG) (h : HP) : va_D (fun q => g_sz G ≤ q) (wso G h) := by
  refine ⟨fun i j p q hp hq e => ?_, fun k q hq => ?_⟩
  · have hi : i < hp_n h - 4 := by rw [← wso_len G h]; exact (List.getElem?_eq_some_iff.mp hp).1
    have hj : j < hp_n h - 4 := by rw [← wso_len G h]; exact (List.getElem?_eq_some_iff.mp hq).1
    rw [wso_get G h i hi] at hp
    rw [wso_get G h j hj] at hq
    cases hp
    cases hq
    simp only at e
    omega
  · have hk : k < hp_n h - 4 := by rw [← wso_len G h]; exact (List.getElem?_eq_some_iff.mp hq).1
    rw [wso_get G h k hk] at hq
    cases hq
    exact Nat.le_add_right _ _
/-- a field is written: the heap's picture behind it -/
theorem wso_putf {G : SG} {h h' : HP} (w : WF G h) {a ci k : Nat} {v : Value} (hk : hp_k h a = ci + 1) (hc : ci < 12) (hkn : k < fnum ci) (hp : fput (fty ci k) h a k v = some h') : (wso G h).set (a - 4) (adr G a, .inr (ci, (flds G h ci a).set k (vv G v))) = wso G h' ∧ WF G h' ∧ hp_n h' = hp_n h ∧ hp_s h' = hp_s h := by
  obtain ⟨h1, h2⟩ := w.tag hk (by omega) (by omega)
  have key : ∀ h'' : HP, hp_n h'' = hp_n h → hp_k h'' = hp_k h → (∀ b, b ≠ a → pce G h'' b = pce G h b) → vv G (fval (fty ci k) h'' a k) = vv G v → (∀ j, j ≠ k → fval (fty ci j) h'' a j = fval (fty ci j) h a j) → (wso G h).set (a - 4) (adr G a, .inr (ci, (flds G h ci a).set k (vv G v))) = wso G h'' := by
    intro h'' e1 e2 e3 e4 e5
    refine wso_set e1 h1 ?_ e3
    rw [← flds_set (h' := h'') hkn e4 e5]
    simp [pce, e2, hk, show ¬ ci + 1 = 100 by omega, show ¬ 200 ≤ ci + 1 by omega]
  have ki : ∀ x : Int32, (fty ci k = .int ∨ fty ci k = .boolean) → v = .int x → h' = hp_wi h a k x → (wso G h).set (a - 4) (adr G a, .inr (ci, (flds G h ci a).set k (vv G v))) = wso G h' ∧ WF G h' ∧ hp_n h' = hp_n h ∧ hp_s h' = hp_s h := by
    intro x ht hv he
    subst hv
    subst he
    refine ⟨key _ rfl rfl (fun b hb => pce_wi hb) ?_ (fun j hj => ?_), w.wi h1, rfl, rfl⟩
    · rcases ht with ht | ht <;> simp [ht, fval, hp_i_wi, vv]
    · unfold fval
      split <;> simp [hp_i_wi, hp_a_wi, hj]
  have ka : ∀ b : Nat, ((∃ n, fty ci k = .object n) ∨ ∃ t, fty ci k = .array t) → v = .ref b → h' = hp_wa h a k b → (wso G h).set (a - 4) (adr G a, .inr (ci, (flds G h ci a).set k (vv G v))) = wso G h' ∧ WF G h' ∧ hp_n h' = hp_n h ∧ hp_s h' = hp_s h := by
    intro x ht hv he
    subst hv
    subst he
    refine ⟨key _ rfl rfl (fun b hb => pce_wa hb) ?_ (fun j hj => ?_), w.wa, rfl, rfl⟩
    · rcases ht with ⟨n, ht⟩ | ⟨n, ht⟩ <;> simp [ht, fval, hp_a_wa, vv]
    · unfold fval
      split <;> simp [hp_i_wa, hp_a_wa, hj]
  unfold fput at hp
  split at hp
  · rename_i x e1
    exact ki x (Or.inl e1) rfl (Option.some.inj hp).symm
  · rename_i x e1
    obtain ⟨-, hp⟩ := gd_some hp
    exact ki x (Or.inr e1) rfl (Option.some.inj hp).symm
  · rename_i n b e1
    exact ka b (Or.inl ⟨_, e1⟩) rfl (Option.some.inj hp).symm
  · rename_i n b e1
    exact ka b (Or.inr ⟨_, e1⟩) rfl (Option.some.inj hp).symm
  · cases hp
theorem wso_ist {G : SG} {h : HP} (w : WF G h) {a k : Nat} {x : Int32} (hk : hp_k h a = 100) : (wso G h).set (a - 4) (adr G a, .inl (g_cI G, hp_l h a, .inl (upd (fun j => hp_i h a j) k x))) = wso G (hp_wi h a k x) := by
  obtain ⟨h1, h2⟩ := w.tag hk (by omega) (by omega)
  refine wso_set rfl h1 ?_ (fun b hb => pce_wi hb)
  have e : (fun j => hp_i (hp_wi h a k x) a j) = upd (fun j => hp_i h a j) k x := by
    funext j
    simp [hp_i_wi, upd]
  simp [pce, hp_k_wi, hp_l_wi, hk, e]
theorem wso_ast {G : SG} {h : HP} (w : WF G h) {a k v : Nat} {o : Option Nat} (hk : 200 ≤ hp_k h a) (ho : o = rfo G v) : (wso G h).set (a - 4) (adr G a, .inl (g_cR G (hp_k h a - 200), hp_l h a, .inr (.inr (.inr (.inr (va_up (fun j => rfo G (hp_a h a j)) k o)))))) = wso G (hp_wa h a k v) := by
  obtain ⟨h1, h2⟩ := w.tag (t := hp_k h a) rfl (by omega) (by omega)
  refine wso_set rfl h1 ?_ (fun b hb => pce_wa hb)
  have e : (fun j => rfo G (hp_a (hp_wa h a k v) a j)) = va_up (fun j => rfo G (hp_a h a j)) k o := by
    funext j
    by_cases hj : j = k <;> simp [hp_a_wa, va_up, hj, ho]
  simp [pce, hp_k_wa, hp_l_wa, hk, e, show ¬ hp_k h a = 100 by omega]
theorem wso_cp {G : SG} {h : HP} (w : WF G h) {a b sp dp n : Nat} (hb : hp_k h b = 100) : (wso G h).set (b - 4) (adr G b, .inl (g_cI G, hp_l h b, .inl (va_cpy (fun j => hp_i h a j) (fun j => hp_i h b j) sp dp n))) = wso G (hp_cp h a sp b dp n) ∧ WF G (hp_cp h a sp b dp n) := by
  obtain ⟨h1, h2⟩ := w.tag hb (by omega) (by omega)
  have e0 : ∀ c j, c ≠ b → hp_i (hp_cp h a sp b dp n) c j = hp_i h c j := fun c j hc => by rw [hp_i_cp, if_neg (fun q => hc q.1)]
  refine ⟨wso_set rfl h1 ?_ (fun c hc => ?_), ?_⟩
  · have e : (fun j => hp_i (hp_cp h a sp b dp n) b j) = va_cpy (fun j => hp_i h a j) (fun j => hp_i h b j) sp dp n := by
      funext j
      simp [hp_i_cp, va_cpy]
    simp [pce, hp_k_cp, hp_l_cp, hb, e]
  · have f : flds G (hp_cp h a sp b dp n) (hp_k h c - 1) c = flds G h (hp_k h c - 1) c := by
      unfold flds
      refine List.map_congr_left fun j _ => ?_
      unfold fval
      split <;> simp [e0 _ _ hc, hp_a_cp]
    simp only [pce, hp_k_cp, hp_l_cp, hp_a_cp, f, e0 _ _ hc]
  · obtain ⟨w1, w2, w3, w4, w5⟩ := w
    refine ⟨w1, w2, w3, w4, fun c g1 g2 => ⟨(w5 c g1 g2).1, (w5 c g1 g2).2.1, fun j => ?_⟩⟩
    rw [e0 c j (by omega)]
    exact (w5 c g1 g2).2.2 j
/-- a cell is made -/
theorem pce_mk {G : SG} {h : HP} {t n s b : Nat} (hb : b ≠ hp_n h) : pce G (hp_mk h t n s) b = pce G h b := by
  have e : ∀ j, hp_i (hp_mk h t n s) b j = hp_i h b j := fun j => by rw [hp_i_mk, if_neg hb]
  have ea : ∀ j, hp_a (hp_mk h t n s) b j = hp_a h b j := fun j => by rw [hp_a_mk, if_neg hb]
  have f : flds G (hp_mk h t n s) (hp_k h b - 1) b = flds G h (hp_k h b - 1) b := by
    unfold flds
    refine List.map_congr_left fun j _ => ?_
    unfold fval
    split <;> simp [e, ea]
  simp only [pce, hp_k_mk, hp_l_mk, if_neg hb, e, ea, f]
theorem wso_mk {G : SG} {h : HP} (w : WF G h) {t n s : Nat} {c : va_E} (hc : pce G (hp_mk h t n s) (hp_n h) = c) : wso G (hp_mk h t n s) = wso G h ++ [(g_sz G + (hp_n h - 4), c)] := by
  have h4 := w.1
  unfold wso
  rw [hp_n_mk, show hp_n h + 1 - 4 = (hp_n h - 4) + 1 by omega, List.range_succ, List.map_append]
  congr 1
  · refine List.map_congr_left fun i hi => ?_
    have := List.mem_range.mp hi
    rw [pce_mk (by omega)]
  · simp [show hp_n h - 4 + 4 = hp_n h by omega, hc]
theorem WF.mk {G : SG} {h : HP} (w : WF G h) {t n s : Nat} (ht : okt t = true) : WF G (hp_mk h t n s) := by
  obtain ⟨w1, w2, w3, w4, w5⟩ := w
  refine ⟨by rw [hp_n_mk]; omega, fun a h1 h2 => ?_, fun a h1 => ?_, ?_, fun a h1 h2 => ?_⟩
  · rw [hp_n_mk] at h2
    rw [hp_k_mk]
    split
    · exact ht
    · exact w2 a h1 (by omega)
  · rw [hp_n_mk] at h1
    rw [hp_k_mk, if_neg (by omega)]
    exact w3 a (by omega)
  · rw [hp_k_mk, if_neg (by omega)]
    exact w4
  · have hne : a ≠ hp_n h := by omega
    refine ⟨?_, ?_, fun j => ?_⟩
    · rw [hp_k_mk, if_neg hne]; exact (w5 a h1 h2).1
    · rw [hp_l_mk, if_neg hne]; exact (w5 a h1 h2).2.1
    · rw [hp_i_mk, if_neg hne]; exact (w5 a h1 h2).2.2 j
end
section
/-! SOUNDNESS 3: one instruction -/
def AX (G : SG) : Nat → Prop := fun q => g_sz G ≤ q
/-- the arrays of before -/
def EX (G : SG) (s : State) : Prop := (∀ e, 1 ≤ e → e < 4 → va_T .int (g_xa G e) (g_xl G e) (fun j => .int (g_xi G e j)) (AX G) s s.heap) ∧ ∀ e, e = 2 ∨ e = 3 → va_Z "MarkedSteps" (xname e) "[I" (.ref (g_xa G e)) (AX G) s s.heap
def ST (G : SG) (s : State) : Prop := va_K (g_D G) cls (tys G) s ∧ NW s ∧ (∀ e ∈ tbO, va_AO (cname e.1) s) ∧ EX G s
def CX (G : SG) (p : Program) (R : Room) (s : State) (m : MethodId) (args : Array Value) (meth : Method) (c : Code) (mm : Nat) : Prop :=
  p.tables.exec = Jvm.exec ∧ c.code = mb mm ∧ c.maxLocals = mxl mm ∧ s.vm.findClass (cname (mcl mm)) = some m.cls ∧ (∀ w ∈ GW, w.before args s = true) ∧ (mini mm = true → meth.name = "<init>") ∧ mcl mm < 13 ∧ 1 ≤ R.frames ∧ 40 ≤ R.locals ∧ g_sz G ≤ s.heap.size ∧ ST G s
def HR (G : SG) (h : HP) (H : Heap) : Prop := WF G h ∧ va_P (g_D G) cls (wso G h) H ∧ H.size = g_sz G + (hp_n h - 4)
def vset (v : Value) : Bool := isI v || isA v || isJ v
def LH (G : SG) (mm : Nat) (L : List Value) (ls : Array Slot) : Prop := ls.size = mxl mm ∧ lv_wf ls ∧ L.length = mxl mm ∧ (∀ k, vset (lget L k) = true → ls[k]? = some (.val (vv G (lget L k)))) ∧ (mlong mm = false → ∀ k, isJ (lget L k) = false)
theorem isI_ex {v : Value} (h : isI v = true) : ∃ x, v = .int x := by
  cases v <;> first | exact ⟨_, rfl⟩ | cases h
theorem isJ_ex {v : Value} (h : isJ v = true) : ∃ x, v = .long x := by
  cases v <;> first | exact ⟨_, rfl⟩ | cases h
theorem isA_ex {v : Value} (h : isA v = true) : ∃ x, v = .ref x := by
  cases v <;> first | exact ⟨_, rfl⟩ | cases h
theorem rf_cat (o : Option Nat) : (va_rf o).category = 1 := by cases o <;> rfl
theorem vv_cat (G : SG) (v : Value) : (vv G v).category = v.category := by
  cases v <;> first | rfl | exact rf_cat _
theorem vset_cat {v : Value} (h : vset v = true) (hj : isJ v = false) : v.category = 1 := by
  cases v <;> first | rfl | (cases hj; done) | (cases h; done)
theorem lget_set {L : List Value} {k : Nat} {v : Value} (hk : k < L.length) (j : Nat) : lget (L.set k v) j = if j = k then v else lget L j := by
  unfold lget
  rw [List.getD_eq_getElem?_getD, List.getD_eq_getElem?_getD]
  by_cases e : j = k
  · subst e
    rw [if_pos rfl, List.getElem?_set_self hk]
    rfl
  · rw [if_neg e, List.getElem?_set_ne (fun q => e q.symm)]
theorem lget_lt {L : List Value} {k : Nat} (h : vset (lget L k) = true) : k < L.length := by
  rcases Nat.lt_or_ge k L.length with q | q
  · exact q
  · unfold lget at h
    rw [List.getD_eq_getElem?_getD, List.getElem?_eq_none q] at h
    cases h
def lvL (G : SG) (L : List Value) : List (Nat × Value) := ((List.range L.length).filter (fun k => vset (lget L k))).map (fun k => (k, vv G (lget L k)))
theorem lvL_in (G : SG) {L : List Value} {k : Nat} (h : vset (lget L k) = true) : (k, vv G (lget L k)) ∈ lvL G L := List.mem_map.mpr ⟨k, List.mem_filter.mpr ⟨List.mem_range.mpr (lget_lt h), h⟩, rfl⟩
theorem LH.has {G : SG} {mm : Nat} {L : List Value} {ls : Array Slot} (h : LH G mm L ls) : lv_has ls (mxl mm) (lvL G L) := by
  refine ⟨h.1, h.2.1, fun q hq => ?_⟩
  obtain ⟨k, hk, rfl⟩ := List.mem_map.mp hq
  exact h.2.2.2.1 k (List.mem_filter.mp hk).2
theorem LH.put {G : SG} {mm : Nat} {L : List Value} {ls ls' : Array Slot} {k : Nat} {v : Value} (h : LH G mm L ls) (hm : mlong mm = false) (hk : k < L.length) (hj : isJ v = false)
    (hn : lv_has ls' (mxl mm) ((k, vv G v) :: (lvL G L).filter (fun q => !(q.1 == k) && !(q.1 + 1 == k && q.2.category == 2)))) : LH G mm (L.set k v) ls' := by
  obtain ⟨h1, h2, h3, h4, h5⟩ := h
  refine ⟨hn.1, hn.2.1, by rw [List.length_set]; exact h3, fun j hs => ?_, fun _ j => ?_⟩
  · rw [lget_set hk] at hs ⊢
    by_cases e : j = k
    · subst e
      rw [if_pos rfl]
      exact hn.2.2 (j, vv G v) List.mem_cons_self
    · rw [if_neg e] at hs ⊢
      refine hn.2.2 (j, vv G (lget L j)) (List.mem_cons_of_mem _ (List.mem_filter.mpr ⟨lvL_in G hs, ?_⟩))
      have hc : (vv G (lget L j)).category = 1 := by rw [vv_cat]; exact vset_cat hs (h5 hm j)
      simp [e, hc]
  · rw [lget_set hk]
    split
    · exact hj
    · exact h5 hm j
theorem jif_some {b : Bool} {pc : Nat} {off : Int} {L S L' S' : List Value} {h h' : HP} {pc' : Nat} (e : jif b pc off L S h = some (pc', L', S', h')) : L' = L ∧ S' = S ∧ h' = h ∧ ∃ t : Nat, (pc : Int) + off = (t : Int) ∧ pc' = if b = true then t else pc + 3 := by
  obtain ⟨h0, e⟩ := gd_some e
  have h0 := of_decide_eq_true h0
  cases b
  · cases e
    exact ⟨rfl, rfl, rfl, ((pc : Int) + off).toNat, by omega, rfl⟩
  · cases e
    exact ⟨rfl, rfl, rfl, ((pc : Int) + off).toNat, by omega, rfl⟩
theorem jmp_some {pc : Nat} {off : Int} {L S L' S' : List Value} {h h' : HP} {pc' : Nat} (e : jmp pc off L S h = some (pc', L', S', h')) : L' = L ∧ S' = S ∧ h' = h ∧ (pc : Int) + off = (pc' : Int) := by
  obtain ⟨h0, e⟩ := gd_some e
  have h0 := of_decide_eq_true h0
  cases e
  exact ⟨rfl, rfl, rfl, by omega⟩
theorem inb_in {j : Int32} {n : Nat} (h : inb j n = true) : vp_in j n := by
  simp only [inb, Bool.and_eq_true, decide_eq_true_eq] at h
  rintro (q | q)
  · exact k2_nlt h.1 q
  · exact absurd h.2 (Nat.not_lt.mpr q)
def heapI (i : Instr) : Bool := match i with
  | .getfield _ => true
  | .putfield _ => true
  | .getstatic _ => true
  | .iaload => true
  | .iastore => true
  | .aaload => true
  | .aastore => true
  | .arraylength => true
  | .newarray _ => true
  | .anewarray _ => true
  | .new _ => true
  | .invokespecial _ => true
  | .invokestatic _ => true
  | _ => false
section Snd
variable {G : SG} {p : Program} {l : Launch} {e : Env} {R : Room} {s : State} {m : MethodId} {args : Array Value} {below : List Frame} {meth : Method} {c : Code} {H : Heap} {locs : List Loc} {cells slots : Nat} {Q : State → Prop} {mm pc : Nat} {h : HP} {ls : Array Slot} {rest : List Value} {cc : ByteArray}
theorem r_aload (hexec : p.tables.exec = Jvm.exec) (hb : c.code = cc) {i : Nat} {r : Option Nat} (hdg : decode cc pc = .ok (.aload i, 2)) (hl : ls[i]? = some (.val (va_rf r))) (k : W p l e R s m args below meth c H locs cells slots Q (F0 m (pc + 2) ls (va_rf r :: rest))) : W p l e R s m args below meth c H locs cells slots Q (F0 m pc ls rest) := by
  cases r with
  | none => exact lv_aloadN hexec hb hdg hl k
  | some a => exact lv_aload hexec hb hdg hl k
theorem r_aload_n (hexec : p.tables.exec = Jvm.exec) (hb : c.code = cc) {i : Fin 4} {r : Option Nat} (hdg : decode cc pc = .ok (.aload_n i, 1)) (hl : ls[(i : Nat)]? = some (.val (va_rf r))) (k : W p l e R s m args below meth c H locs cells slots Q (F0 m (pc + 1) ls (va_rf r :: rest))) : W p l e R s m args below meth c H locs cells slots Q (F0 m pc ls rest) := by
  cases r with
  | none => exact lv_aload_nN hexec hb hdg rfl hl k
  | some a => exact lv_aload_n hexec hb hdg rfl hl k
theorem r_astore (hexec : p.tables.exec = Jvm.exec) (hb : c.code = cc) {i nL : Nat} {r : Option Nat} {lv : List (Nat × Value)} (hdg : decode cc pc = .ok (.astore i, 2)) (h : lv_has ls nL lv) (hn : i < nL) (k : ∀ ls' : Array Slot, lv_has ls' nL ((i, va_rf r) :: lv.filter (fun q => !(q.1 == i) && !(q.1 + 1 == i && q.2.category == 2))) → W p l e R s m args below meth c H locs cells slots Q (F0 m (pc + 2) ls' rest)) : W p l e R s m args below meth c H locs cells slots Q (F0 m pc ls (va_rf r :: rest)) := by
  cases r with
  | none => exact lv_astoreN hexec hb hdg h hn rfl k
  | some a => exact lv_astore hexec hb hdg h hn rfl k
theorem r_astore_n (hexec : p.tables.exec = Jvm.exec) (hb : c.code = cc) {i : Fin 4} {nL : Nat} {r : Option Nat} {lv : List (Nat × Value)} (hdg : decode cc pc = .ok (.astore_n i, 1)) (h : lv_has ls nL lv) (hn : (i : Nat) < nL) (k : ∀ ls' : Array Slot, lv_has ls' nL (((i : Nat), va_rf r) :: lv.filter (fun q => !(q.1 == (i : Nat)) && !(q.1 + 1 == (i : Nat) && q.2.category == 2))) → W p l e R s m args below meth c H locs cells slots Q (F0 m (pc + 1) ls' rest)) : W p l e R s m args below meth c H locs cells slots Q (F0 m pc ls (va_rf r :: rest)) := by
  cases r with
  | none => exact lv_astore_nN hexec hb hdg rfl h hn rfl k
  | some a => exact lv_astore_n hexec hb hdg rfl h hn rfl k
/-- instructions that leave the heap as it is -/
theorem snd_same (C : CX G p R s m args meth c mm) {i : Instr} {len : Nat} {L S L' S' : List Value} {pc' : Nat} {h' : HP} (hd : decode (mb mm) pc = .ok (i, len)) (hs : stp mm pc i len L S h = some (pc', L', S', h')) (hl : LH G mm L ls)
    (hni : heapI i = false)
    (kk : h' = h → ∀ ls', LH G mm L' ls' → W p l e R s m args below meth c H locs cells slots Q (F0 m pc' ls' (S'.map (vv G)))) : W p l e R s m args below meth c H locs cells slots Q (F0 m pc ls (S.map (vv G))) := by
  obtain ⟨hx, hb, hml, hown, hts, hin, hcl, -⟩ := C
  cases i with
  | iconst n =>
    obtain ⟨q, hs⟩ := gd_some hs
    obtain rfl : len = 1 := by simpa using q
    cases hs
    exact lv_iconst hx hb hd rfl (kk rfl ls hl)
  | bipush n =>
    obtain ⟨q, hs⟩ := gd_some hs
    obtain rfl : len = 2 := by simpa using q
    cases hs
    exact lv_bipush hx hb hd rfl (kk rfl ls hl)
  | sipush n =>
    obtain ⟨q, hs⟩ := gd_some hs
    obtain rfl : len = 3 := by simpa using q
    cases hs
    exact lv_sipush hx hb hd rfl (kk rfl ls hl)
  | ldc idx =>
    obtain ⟨q, hs⟩ := gd_some hs
    obtain rfl : len = 2 := by simpa using q
    obtain ⟨v, hv, hs⟩ := Option.bind_eq_some_iff.mp hs
    cases hs
    exact lv_ldc hx hb hown (hts _ (gw (lkC_ok hcl hv) rfl)) hd (kk rfl ls hl)
  | aconst_null =>
    obtain ⟨q, hs⟩ := gd_some hs
    obtain rfl : len = 1 := by simpa using q
    cases hs
    exact lv_null hx hb hd (kk rfl ls hl)
  | iload k =>
    obtain ⟨q, hs⟩ := gd_some hs
    obtain rfl : len = 2 := by simpa using q
    obtain ⟨ht, hs⟩ := gd_some hs
    have h4 := hl.2.2.2.1 k (by simp [vset, ht])
    obtain ⟨x, hv⟩ := isI_ex ht
    rw [hv] at hs h4
    cases hs
    exact lv_iload hx hb hd h4 (kk rfl ls hl)
  | iload_n k =>
    obtain ⟨q, hs⟩ := gd_some hs
    obtain rfl : len = 1 := by simpa using q
    obtain ⟨ht, hs⟩ := gd_some hs
    have h4 := hl.2.2.2.1 k (by simp [vset, ht])
    obtain ⟨x, hv⟩ := isI_ex ht
    rw [hv] at hs h4
    cases hs
    exact lv_iload_n hx hb hd rfl h4 (kk rfl ls hl)
  | aload k =>
    obtain ⟨q, hs⟩ := gd_some hs
    obtain rfl : len = 2 := by simpa using q
    obtain ⟨ht, hs⟩ := gd_some hs
    have h4 := hl.2.2.2.1 k (by simp [vset, ht])
    obtain ⟨x, hv⟩ := isA_ex ht
    rw [hv] at hs h4
    cases hs
    exact r_aload hx hb hd h4 (kk rfl ls hl)
  | aload_n k =>
    obtain ⟨q, hs⟩ := gd_some hs
    obtain rfl : len = 1 := by simpa using q
    obtain ⟨ht, hs⟩ := gd_some hs
    have h4 := hl.2.2.2.1 k (by simp [vset, ht])
    obtain ⟨x, hv⟩ := isA_ex ht
    rw [hv] at hs h4
    cases hs
    exact r_aload_n hx hb hd h4 (kk rfl ls hl)
  | lload_n k =>
    obtain ⟨q, hs⟩ := gd_some hs
    obtain rfl : len = 1 := by simpa using q
    obtain ⟨ht, hs⟩ := gd_some hs
    have h4 := hl.2.2.2.1 k (by simp [vset, ht])
    obtain ⟨x, hv⟩ := isJ_ex ht
    rw [hv] at hs h4
    cases hs
    exact lv_lload_n hx hb hd rfl h4 (kk rfl ls hl)
  | istore k =>
    obtain ⟨q, hs⟩ := gd_some hs
    obtain rfl : len = 2 := by simpa using q
    obtain ⟨v, S1, rfl, hs⟩ := s_v_some hs
    obtain ⟨ht, hs⟩ := gd_some hs
    simp only [Bool.and_eq_true, Bool.not_eq_true', decide_eq_true_eq] at ht
    obtain ⟨x, rfl⟩ := isI_ex ht.1.1
    cases hs
    exact lv_istore hx hb hd hl.has (by rw [← hl.2.2.1]; exact ht.2) rfl (fun ls' hn => kk rfl ls' (hl.put ht.1.2 ht.2 rfl hn))
  | istore_n k =>
    obtain ⟨q, hs⟩ := gd_some hs
    obtain rfl : len = 1 := by simpa using q
    obtain ⟨v, S1, rfl, hs⟩ := s_v_some hs
    obtain ⟨ht, hs⟩ := gd_some hs
    simp only [Bool.and_eq_true, Bool.not_eq_true', decide_eq_true_eq] at ht
    obtain ⟨x, rfl⟩ := isI_ex ht.1.1
    cases hs
    exact lv_istore_n hx hb hd rfl hl.has (by rw [← hl.2.2.1]; exact ht.2) rfl (fun ls' hn => kk rfl ls' (hl.put ht.1.2 ht.2 rfl hn))
  | astore k =>
    obtain ⟨q, hs⟩ := gd_some hs
    obtain rfl : len = 2 := by simpa using q
    obtain ⟨v, S1, rfl, hs⟩ := s_v_some hs
    obtain ⟨ht, hs⟩ := gd_some hs
    simp only [Bool.and_eq_true, Bool.not_eq_true', decide_eq_true_eq] at ht
    obtain ⟨x, rfl⟩ := isA_ex ht.1.1
    cases hs
    exact r_astore hx hb hd hl.has (by rw [← hl.2.2.1]; exact ht.2) (fun ls' hn => kk rfl ls' (hl.put (v := .ref x) ht.1.2 ht.2 rfl hn))
  | astore_n k =>
    obtain ⟨q, hs⟩ := gd_some hs
    obtain rfl : len = 1 := by simpa using q
    obtain ⟨v, S1, rfl, hs⟩ := s_v_some hs
    obtain ⟨ht, hs⟩ := gd_some hs
    simp only [Bool.and_eq_true, Bool.not_eq_true', decide_eq_true_eq] at ht
    obtain ⟨x, rfl⟩ := isA_ex ht.1.1
    cases hs
    exact r_astore_n hx hb hd hl.has (by rw [← hl.2.2.1]; exact ht.2) (fun ls' hn => kk rfl ls' (hl.put (v := .ref x) ht.1.2 ht.2 rfl hn))
  | iinc k n =>
    obtain ⟨q, hs2⟩ := gd_some hs
    clear hs
    simp only [Bool.and_eq_true, Bool.not_eq_true', decide_eq_true_eq, beq_iff_eq] at q
    obtain ⟨⟨rfl, q1⟩, q2⟩ := q
    cases hv : lget L k with
    | int x =>
      rw [hv] at hs2
      cases hs2
      have h5 : vset (lget L k) = true := by rw [hv]; rfl
      obtain ⟨j, hj⟩ := List.getElem?_of_mem (lvL_in G h5)
      rw [hv] at hj
      exact lv_iinc hx hb hd hl.has hj rfl (by rw [← hl.2.2.1]; exact q2) rfl (fun ls' hn => kk rfl ls' (hl.put q1 q2 rfl hn))
    | _ => rw [hv] at hs2; cases hs2
  | iadd =>
    obtain ⟨q, hs⟩ := gd_some hs
    obtain rfl : len = 1 := by simpa using q
    obtain ⟨y, S1, rfl, hs⟩ := s_i_some hs
    obtain ⟨x, S2, rfl, hs⟩ := s_i_some hs
    cases hs
    exact lv_iadd hx hb hd (kk rfl ls hl)
  | isub =>
    obtain ⟨q, hs⟩ := gd_some hs
    obtain rfl : len = 1 := by simpa using q
    obtain ⟨y, S1, rfl, hs⟩ := s_i_some hs
    obtain ⟨x, S2, rfl, hs⟩ := s_i_some hs
    cases hs
    exact lv_isub hx hb hd (kk rfl ls hl)
  | imul =>
    obtain ⟨q, hs⟩ := gd_some hs
    obtain rfl : len = 1 := by simpa using q
    obtain ⟨y, S1, rfl, hs⟩ := s_i_some hs
    obtain ⟨x, S2, rfl, hs⟩ := s_i_some hs
    cases hs
    exact lv_imul hx hb hd (kk rfl ls hl)
  | iand =>
    obtain ⟨q, hs⟩ := gd_some hs
    obtain rfl : len = 1 := by simpa using q
    obtain ⟨y, S1, rfl, hs⟩ := s_i_some hs
    obtain ⟨x, S2, rfl, hs⟩ := s_i_some hs
    cases hs
    exact lv_iand hx hb hd (kk rfl ls hl)
  | ior =>
    obtain ⟨q, hs⟩ := gd_some hs
    obtain rfl : len = 1 := by simpa using q
    obtain ⟨y, S1, rfl, hs⟩ := s_i_some hs
    obtain ⟨x, S2, rfl, hs⟩ := s_i_some hs
    cases hs
    exact lv_ior hx hb hd (kk rfl ls hl)
  | ixor =>
    obtain ⟨q, hs⟩ := gd_some hs
    obtain rfl : len = 1 := by simpa using q
    obtain ⟨y, S1, rfl, hs⟩ := s_i_some hs
    obtain ⟨x, S2, rfl, hs⟩ := s_i_some hs
    cases hs
    exact lv_ixor hx hb hd (kk rfl ls hl)
  | ishl =>
    obtain ⟨q, hs⟩ := gd_some hs
    obtain rfl : len = 1 := by simpa using q
    obtain ⟨y, S1, rfl, hs⟩ := s_i_some hs
    obtain ⟨x, S2, rfl, hs⟩ := s_i_some hs
    cases hs
    exact lv_ishl hx hb hd (kk rfl ls hl)
  | idiv =>
    obtain ⟨q, hs⟩ := gd_some hs
    obtain rfl : len = 1 := by simpa using q
    obtain ⟨y, S1, rfl, hs⟩ := s_i_some hs
    obtain ⟨x, S2, rfl, hs⟩ := s_i_some hs
    obtain ⟨hy, hs⟩ := gd_some hs
    cases hs
    exact lv_idiv hx hb hd (by simpa using hy) (kk rfl ls hl)
  | irem =>
    obtain ⟨q, hs⟩ := gd_some hs
    obtain rfl : len = 1 := by simpa using q
    obtain ⟨y, S1, rfl, hs⟩ := s_i_some hs
    obtain ⟨x, S2, rfl, hs⟩ := s_i_some hs
    obtain ⟨hy, hs⟩ := gd_some hs
    cases hs
    exact lv_irem hx hb hd (by simpa using hy) (kk rfl ls hl)
  | i2l =>
    obtain ⟨q, hs⟩ := gd_some hs
    obtain rfl : len = 1 := by simpa using q
    obtain ⟨x, S1, rfl, hs⟩ := s_i_some hs
    cases hs
    exact lv_i2l hx hb hd rfl (kk rfl ls hl)
  | l2i =>
    obtain ⟨q, hs⟩ := gd_some hs
    obtain rfl : len = 1 := by simpa using q
    obtain ⟨x, S1, rfl, hs⟩ := s_j_some hs
    cases hs
    exact lv_l2i hx hb hd rfl (kk rfl ls hl)
  | i2b =>
    obtain ⟨q, hs⟩ := gd_some hs
    obtain rfl : len = 1 := by simpa using q
    obtain ⟨x, S1, rfl, hs⟩ := s_i_some hs
    cases hs
    exact lv_i2b hx hb hd rfl (kk rfl ls hl)
  | ladd =>
    obtain ⟨q, hs⟩ := gd_some hs
    obtain rfl : len = 1 := by simpa using q
    obtain ⟨y, S1, rfl, hs⟩ := s_j_some hs
    obtain ⟨x, S2, rfl, hs⟩ := s_j_some hs
    cases hs
    exact lv_ladd hx hb hd (kk rfl ls hl)
  | lmul =>
    obtain ⟨q, hs⟩ := gd_some hs
    obtain rfl : len = 1 := by simpa using q
    obtain ⟨y, S1, rfl, hs⟩ := s_j_some hs
    obtain ⟨x, S2, rfl, hs⟩ := s_j_some hs
    cases hs
    exact lv_lmul hx hb hd (kk rfl ls hl)
  | lcmp =>
    obtain ⟨q, hs⟩ := gd_some hs
    obtain rfl : len = 1 := by simpa using q
    obtain ⟨y, S1, rfl, hs⟩ := s_j_some hs
    obtain ⟨x, S2, rfl, hs⟩ := s_j_some hs
    cases hs
    exact W.lcmp hx hb hd (kk rfl ls hl)
  | dup =>
    obtain ⟨q, hs⟩ := gd_some hs
    obtain rfl : len = 1 := by simpa using q
    obtain ⟨v, S1, rfl, hs⟩ := s_v_some hs
    obtain ⟨hc, hs⟩ := gd_some hs
    cases hs
    exact lv_dup hx hb hd (by rw [vv_cat]; simpa using hc) (kk rfl ls hl)
  | pop =>
    obtain ⟨q, hs⟩ := gd_some hs
    obtain rfl : len = 1 := by simpa using q
    obtain ⟨v, S1, rfl, hs⟩ := s_v_some hs
    obtain ⟨hc, hs⟩ := gd_some hs
    cases hs
    exact lv_pop hx hb hd (by rw [vv_cat]; simpa using hc) (kk rfl ls hl)
  | dup2 =>
    obtain ⟨q, hs⟩ := gd_some hs
    obtain rfl : len = 1 := by simpa using q
    obtain ⟨v, S1, rfl, hs⟩ := s_v_some hs
    obtain ⟨w, S2, rfl, hs⟩ := s_v_some hs
    obtain ⟨hc, hs⟩ := gd_some hs
    simp only [Bool.and_eq_true, beq_iff_eq] at hc
    cases hs
    exact lv_dup2_11 hx hb hd (by rw [vv_cat]; exact hc.1) (by rw [vv_cat]; exact hc.2) (kk rfl ls hl)
  | ifCond cd off =>
    obtain ⟨q, hs⟩ := gd_some hs
    obtain rfl : len = 3 := by simpa using q
    obtain ⟨x, S1, rfl, hs⟩ := s_i_some hs
    obtain ⟨rfl, rfl, rfl, t, ht, rfl⟩ := jif_some hs
    have kt : cnd cd x 0 = true → W p l e R s m args below meth c H locs cells slots Q (F0 m t ls (List.map (vv G) S')) := fun hc => by
      have := kk rfl ls hl
      rwa [if_pos hc] at this
    have kf : ¬ cnd cd x 0 = true → W p l e R s m args below meth c H locs cells slots Q (F0 m (pc + 3) ls (List.map (vv G) S')) := fun hc => by
      have := kk rfl ls hl
      rwa [if_neg hc] at this
    cases cd with
    | eq => exact lv_if_eq hx hb hd ht (fun a => kt (decide_eq_true a)) (fun a => kf (fun b => a (of_decide_eq_true b)))
    | ne => exact lv_if_ne hx hb hd ht (fun a => kt (decide_eq_true a)) (fun a => kf (fun b => (of_decide_eq_true b) a))
    | lt => exact lv_if_lt hx hb hd ht (fun a => kt (decide_eq_true a)) (fun a => kf (fun b => a (of_decide_eq_true b)))
    | ge => exact lv_if_ge hx hb hd ht (fun a => kt (decide_eq_true a)) (fun a => kf (fun b => a (of_decide_eq_true b)))
    | gt => exact lv_if_gt hx hb hd ht (fun a => kt (decide_eq_true a)) (fun a => kf (fun b => a (of_decide_eq_true b)))
    | le => exact lv_if_le hx hb hd ht (fun a => kt (decide_eq_true a)) (fun a => kf (fun b => a (of_decide_eq_true b)))
  | if_icmp cd off =>
    obtain ⟨q, hs⟩ := gd_some hs
    obtain rfl : len = 3 := by simpa using q
    obtain ⟨y, S1, rfl, hs⟩ := s_i_some hs
    obtain ⟨x, S2, rfl, hs⟩ := s_i_some hs
    obtain ⟨rfl, rfl, rfl, t, ht, rfl⟩ := jif_some hs
    have kt : cnd cd x y = true → W p l e R s m args below meth c H locs cells slots Q (F0 m t ls (List.map (vv G) S')) := fun hc => by
      have := kk rfl ls hl
      rwa [if_pos hc] at this
    have kf : ¬ cnd cd x y = true → W p l e R s m args below meth c H locs cells slots Q (F0 m (pc + 3) ls (List.map (vv G) S')) := fun hc => by
      have := kk rfl ls hl
      rwa [if_neg hc] at this
    cases cd with
    | eq => exact lv_icmp_eq hx hb hd ht (fun a => kt (decide_eq_true a)) (fun a => kf (fun b => a (of_decide_eq_true b)))
    | ne => exact lv_icmp_ne hx hb hd ht (fun a => kt (decide_eq_true a)) (fun a => kf (fun b => (of_decide_eq_true b) a))
    | lt => exact lv_icmp_lt hx hb hd ht (fun a => kt (decide_eq_true a)) (fun a => kf (fun b => a (of_decide_eq_true b)))
    | ge => exact lv_icmp_ge hx hb hd ht (fun a => kt (decide_eq_true a)) (fun a => kf (fun b => a (of_decide_eq_true b)))
    | gt => exact lv_icmp_gt hx hb hd ht (fun a => kt (decide_eq_true a)) (fun a => kf (fun b => a (of_decide_eq_true b)))
    | le => exact lv_icmp_le hx hb hd ht (fun a => kt (decide_eq_true a)) (fun a => kf (fun b => a (of_decide_eq_true b)))
  | ifnull off =>
    obtain ⟨q, hs⟩ := gd_some hs
    obtain rfl : len = 3 := by simpa using q
    obtain ⟨a, S1, rfl, hs⟩ := s_a_some hs
    obtain ⟨rfl, rfl, rfl, t, ht, rfl⟩ := jif_some hs
    have k0 := kk rfl ls hl
    show W p l e R s m args below meth c H locs cells slots Q (F0 m pc ls (va_rf (rfo G a) :: List.map (vv G) S'))
    by_cases ha : a = 0
    · subst ha
      exact lv_ifnullN hx hb hd ht k0
    · rw [if_neg (by simpa using ha)] at k0
      rw [show rfo G a = some (adr G a) from if_neg ha]
      exact lv_ifnull hx hb hd k0
  | ifnonnull off =>
    obtain ⟨q, hs⟩ := gd_some hs
    obtain rfl : len = 3 := by simpa using q
    obtain ⟨a, S1, rfl, hs⟩ := s_a_some hs
    obtain ⟨rfl, rfl, rfl, t, ht, rfl⟩ := jif_some hs
    have k0 := kk rfl ls hl
    show W p l e R s m args below meth c H locs cells slots Q (F0 m pc ls (va_rf (rfo G a) :: List.map (vv G) S'))
    by_cases ha : a = 0
    · subst ha
      exact lv_ifnonnullN hx hb hd k0
    · rw [if_pos (by simpa using ha)] at k0
      rw [show rfo G a = some (adr G a) from if_neg ha]
      exact lv_ifnonnull hx hb hd ht k0
  | if_acmp cd off =>
    have rinj : ∀ a b : Nat, okr a = true → okr b = true → rfo G a = rfo G b → a = b := by
      intro a b ha hb hr
      simp only [okr, Bool.or_eq_true, beq_iff_eq, decide_eq_true_eq] at ha hb
      unfold rfo at hr
      by_cases h1 : a = 0 <;> by_cases h2 : b = 0
      · rw [h1, h2]
      · rw [if_pos h1, if_neg h2] at hr; cases hr
      · rw [if_neg h1, if_pos h2] at hr; cases hr
      · rw [if_neg h1, if_neg h2, adr_ge G (by omega), adr_ge G (by omega)] at hr
        have := Option.some.inj hr
        omega
    cases cd with
    | eq =>
      obtain ⟨q, hs⟩ := gd_some hs
      obtain rfl : len = 3 := by simpa using q
      obtain ⟨b, S1, rfl, hs⟩ := s_a_some hs
      obtain ⟨a, S2, rfl, hs⟩ := s_a_some hs
      obtain ⟨hok, hs⟩ := gd_some hs
      simp only [Bool.and_eq_true] at hok
      obtain ⟨rfl, rfl, rfl, t, ht, rfl⟩ := jif_some hs
      have k0 := kk rfl ls hl
      refine lv_acmp_eq (rx := rfo G a) (ry := rfo G b) hx hb hd ht (fun hr => ?_) (fun hr => ?_)
      · rwa [if_pos (by simpa using rinj a b hok.1 hok.2 hr)] at k0
      · rwa [if_neg (by intro z; exact hr (by rw [show a = b by simpa using z]))] at k0
    | ne =>
      obtain ⟨q, hs⟩ := gd_some hs
      obtain rfl : len = 3 := by simpa using q
      obtain ⟨b, S1, rfl, hs⟩ := s_a_some hs
      obtain ⟨a, S2, rfl, hs⟩ := s_a_some hs
      obtain ⟨hok, hs⟩ := gd_some hs
      simp only [Bool.and_eq_true] at hok
      obtain ⟨rfl, rfl, rfl, t, ht, rfl⟩ := jif_some hs
      have k0 := kk rfl ls hl
      refine lv_acmp_ne (rx := rfo G a) (ry := rfo G b) hx hb hd ht (fun hr => ?_) (fun hr => ?_)
      · rwa [if_pos (by simpa using fun z : a = b => hr (by rw [z]))] at k0
      · rwa [if_neg (by simpa using rinj a b hok.1 hok.2 hr)] at k0
  | goto off =>
    obtain ⟨q, hs⟩ := gd_some hs
    obtain rfl : len = 3 := by simpa using q
    obtain ⟨rfl, rfl, rfl, ht⟩ := jmp_some hs
    exact lv_goto hx hb hd ht (kk rfl ls hl)
  | tableswitch d lo hi offs =>
    obtain ⟨x, S1, rfl, hs2⟩ := s_i_some hs
    clear hs
    cases hc : (decide (x.toInt < lo) || decide (hi < x.toInt)) with
    | true =>
      rw [hc] at hs2
      obtain ⟨rfl, rfl, rfl, ht⟩ := jmp_some hs2
      exact lv_tableOut hx hb hd (by simpa using hc) ht (kk rfl ls hl)
    | false =>
      rw [hc] at hs2
      simp only [Bool.or_eq_false_iff, decide_eq_false_iff_not] at hc
      obtain ⟨off, ho, hs2⟩ := Option.bind_eq_some_iff.mp hs2
      obtain ⟨rfl, rfl, rfl, ht⟩ := jmp_some hs2
      exact lv_tableIn hx hb hd hc.1 hc.2 ho ht (kk rfl ls hl)
  | lookupswitch d ps =>
    obtain ⟨x, S1, rfl, hs⟩ := s_i_some hs
    obtain ⟨hp, hs⟩ := gd_some hs
    obtain ⟨rfl, rfl, rfl, ht⟩ := jmp_some hs
    exact lv_lookup hx hb hd hp rfl ht (kk rfl ls hl)
  | getfield idx => cases hni
  | putfield idx => cases hni
  | getstatic idx => cases hni
  | iaload => cases hni
  | iastore => cases hni
  | aaload => cases hni
  | aastore => cases hni
  | arraylength => cases hni
  | newarray t => cases hni
  | anewarray idx => cases hni
  | new idx => cases hni
  | invokespecial idx => cases hni
  | invokestatic idx => cases hni
  | _ => cases hs
end Snd
end
section
/-! SOUNDNESS 4: the instructions that touch the heap -/
def ftok (ty : FieldType) : Bool := match ty with
  | .int => true
  | .boolean => true
  | .object _ => true
  | .array _ => true
  | _ => false
theorem ckT_ok : ((List.range 12).all fun c => (List.range (fnum c)).all fun k => ftok (fty c k)) = true := by decide +kernel
theorem HR.n4 {G : SG} {h : HP} {H : Heap} (w : HR G h H) : 4 ≤ hp_n h := w.1.1
section Snd
variable {G : SG} {p : Program} {l : Launch} {e : Env} {R : Room} {s : State} {m : MethodId} {args : Array Value} {below : List Frame} {meth : Method} {c : Code} {H : Heap} {locs : List Loc} {cells slots : Nat} {Q : State → Prop} {mm pc : Nat} {h : HP} {ls : Array Slot} {rest : List Value} {cc : ByteArray}
theorem vv_ref (G : SG) {a : Nat} (ha : ¬ a = 0) : vv G (.ref a) = .ref (adr G a) := by
  show va_rf (rfo G a) = _
  rw [show rfo G a = some (adr G a) from if_neg ha]
  rfl
theorem fits_f (G : SG) {ci k : Nat} {h h' : HP} {a : Nat} {v : Value} (hp : fput (fty ci k) h a k v = some h') : narrow (fty ci k) (vv G v) = vv G v ∧ fits (fty ci k) (vv G v) = true := by
  unfold fput at hp
  split at hp
  · rename_i x e1
    rw [e1]
    exact ⟨rfl, rfl⟩
  · rename_i x e1
    obtain ⟨hx, -⟩ := gd_some hp
    rw [e1]
    simp only [Bool.or_eq_true, beq_iff_eq] at hx
    rcases hx with rfl | rfl
    · show narrow .boolean (.int 0) = .int 0 ∧ fits .boolean (.int 0) = true
      exact ⟨by decide, by decide⟩
    · show narrow .boolean (.int 1) = .int 1 ∧ fits .boolean (.int 1) = true
      exact ⟨by decide, by decide⟩
  · rename_i n b e1
    rw [e1]
    show narrow _ (va_rf (rfo G b)) = va_rf (rfo G b) ∧ fits _ (va_rf (rfo G b)) = true
    cases rfo G b <;> exact ⟨rfl, rfl⟩
  · rename_i n b e1
    rw [e1]
    show narrow _ (va_rf (rfo G b)) = va_rf (rfo G b) ∧ fits _ (va_rf (rfo G b)) = true
    cases rfo G b <;> exact ⟨rfl, rfl⟩
  · cases hp
theorem i32_nn {z : Int32} (hz : 0 ≤ z) : z.toInt = (ix z : Int) := by
  have h0 : (0 : Int) ≤ z.toInt := by simpa using Int32.le_iff_toInt_le.mp hz
  show z.toInt = ((z.toInt.toNat : Nat) : Int)
  omega
/-- System.arraycopy between two int arrays of the heap: nothing but the one cell changes -/
theorem r_copy (hx : p.tables.exec = Jvm.exec) (hb : c.code = cc) (hml : c.maxLocals = ls.size) {own : String} {idx : Nat} (hown : s.vm.findClass own = some m.cls) (hlink : (Cond.methodLink own idx arraycopyName).before args s = true) (hnat : (Cond.native arraycopyName).before args s = true) (hstat : (Cond.static arraycopyName).before args s = true) (hini : (Cond.initialized "java/lang/System").before args s = true)
    {cI : ClassId} (hI : ArrOfT s cI .int) {A B n0 n1 : Nat} {f g : Nat → Int32} (hA : H[A]? = some (arrV cI n0 (fun j => .int (f j)))) (hB : H[B]? = some (arrV cI n1 (fun j => .int (g j)))) {sp dp n : Int32} (h1 : 0 ≤ sp) (h2 : 0 ≤ dp) (h3 : 0 ≤ n) (h4 : ix sp + ix n ≤ n0) (h5 : ix dp + ix n ≤ n1) (hfr : 1 ≤ R.frames) (hlo : (rest.map fun v => v.category).sum + 18 ≤ R.locals) (hd : decode cc pc = .ok (.invokestatic idx, 3))
    (kk : ∀ (H1 : Heap) (L : List Loc), (∀ q ∈ L, q.base = B) → H1.size = H.size → H1[B]? = some (arrV cI n1 (fun j => .int (va_cpy f g (ix sp) (ix dp) (ix n) j))) → (∀ q, q ≠ B → H1[q]? = H[q]?) → W p l e R s m args below meth c H1 (locs ++ L) cells slots Q (F0 m (pc + 3) ls rest)) : W p l e R s m args below meth c H locs cells slots Q (F0 m pc ls (.int n :: .int dp :: .ref B :: .int sp :: .ref A :: rest)) := by
  intro T hT X
  subst hT
  obtain ⟨-, kA, q1, cm, q2⟩ := hI n0 (fun j => .int (f j))
  have rd : ∀ i, i < ix n → (arrV cI n0 (fun j => .int (f j))).slots.getD (ix sp + i) .null = .int (f (ix sp + i)) := by
    intro i hi
    rw [Array.getD_eq_getD_getElem?, arrV_read _ _ (by omega)]
    rfl
  obtain ⟨vm', X', step⟩ := X.arraycopy hx hown hlink hnat hstat hini (srcPos := sp) (destPos := dp) (n := n) hA hB (fun _ z => by cases z) (fun _ z => by cases z) (fun z => by cases z) (fun z => by cases z) q1 q1 q2 q2 (by simp [refKind]) (k2_nlt h1) (k2_nlt h2) (k2_nlt h3) (by rw [i32_nn h1, i32_nn h3, arrV_size]; omega) (by rw [i32_nn h2, i32_nn h3, arrV_size]; omega)
    (fun vm1 _ i hi => by
      refine ⟨?_, ?_⟩
      · rw [rd i hi]; rfl
      · rw [rd i hi]; exact trivial)
    (g := F0 m pc ls (.int n :: .int dp :: .ref B :: .int sp :: .ref A :: rest)) rfl hml.symm (rest := rest) rfl (by rw [hb]; exact hd) hfr (by show 2 * 0 + _ + (7 + 11) ≤ _; omega)
  have e1 : copied (arrV cI n0 (fun j => .int (f j))) (arrV cI n1 (fun j => .int (g j))) sp dp n = arrV cI n1 (fun j => .int (va_cpy f g (ix sp) (ix dp) (ix n) j)) := va_copied (fun z => .int z) cI cI f g h4
  rw [e1] at X' step
  have hlt : B < T.heap.size := (Array.getElem?_eq_some_iff.mp hB).1
  obtain ⟨t, a1, b1⟩ := kk _ _ (fun q hq => by obtain ⟨z, -, hz⟩ := List.mem_map.mp hq; rw [← hz]) (size_setCell (T.setVm vm') B _) (heapAt_setCell_self (s := T.setVm vm') _ hlt) (fun q hq => heapAt_setCell_ne _ (Ne.symm hq)) _ rfl X'
  exact ⟨t, step t a1, b1⟩
set_option maxRecDepth 100000 in
set_option maxHeartbeats 4000000 in
theorem snd_heap (C : CX G p R s m args meth c mm) {i : Instr} {len : Nat} {L S L' S' : List Value} {pc' : Nat} {h' : HP} (hd : decode (mb mm) pc = .ok (i, len)) (hs : stp mm pc i len L S h = some (pc', L', S', h')) (hR : HR G h H) (hS : va_S (AX G) s.heap H locs) (hl : LH G mm L ls) (hni : heapI i = true)
    (hcells : cells + (hp_n h' - hp_n h) ≤ R.cells) (hslots : slots + (hp_s h' - hp_s h) ≤ R.slots)
    (kk : L' = L → ∀ H' locs', HR G h' H' → va_S (AX G) s.heap H' locs' → W p l e R s m args below meth c H' locs' (cells + (hp_n h' - hp_n h)) (slots + (hp_s h' - hp_s h)) Q (F0 m pc' ls (S'.map (vv G)))) : W p l e R s m args below meth c H locs cells slots Q (F0 m pc ls (S.map (vv G))) := by
  obtain ⟨hx, hb, hml, hown, hts, hin, hcl, hfr, hlo, hsz, hK, hN, hAO, hEX, hZ⟩ := C
  obtain ⟨hW, hP, hHs⟩ := id hR
  have hA : ∀ q : Nat, s.heap.size ≤ q → AX G q := fun q hq => Nat.le_trans hsz hq
  have hD : va_D (AX G) (wso G h) := wso_D G h
  cases i with
  | getfield idx =>
    obtain ⟨q, hs1⟩ := gd_some hs
    clear hs
    obtain rfl : len = 3 := by simpa using q
    obtain ⟨⟨ci, k, nest⟩, hf, hs2⟩ := Option.bind_eq_some_iff.mp hs1
    clear hs1
    obtain ⟨a, S1, rfl, hs3⟩ := s_a_some hs2
    clear hs2
    obtain ⟨hk0, hs4⟩ := gd_some hs3
    clear hs3
    have hk : hp_k h a = ci + 1 := by simpa using hk0
    clear hk0
    cases hs4
    obtain ⟨w1, w2, w3, w4⟩ := lkF_ok hcl hf
    simp only at w2 w3 w4
    obtain ⟨t1, t2⟩ := hW.tag hk (by omega) (by omega)
    have k0 := kk rfl H locs hR hS
    simp only [Nat.sub_self, Nat.add_zero] at k0
    show W p l e R s m args below meth c H locs cells slots Q (F0 m pc ls (vv G (.ref a) :: List.map (vv G) S1))
    rw [vv_ref G (by omega)]
    cases nest with
    | false => exact va_get hx hb hts (u_in w2) hown hK hP (a - 4) (obj_at hW hk w2) (cls_at w2) k w3 (hts _ (gw w1 rfl)) (fun x hx => by rw [← w4]; exact hx) (flds_at G h a w3) hd k0
    | true => exact va_getN hx hb hts (u_in w2) hown hK hP (a - 4) (obj_at hW hk w2) (cls_at w2) k w3 (va_Nw.use rfl (hN _ w1 rfl)) (fun x hx => by rw [← w4]; exact hx) (flds_at G h a w3) hd k0
  | putfield idx =>
    obtain ⟨q, hs1⟩ := gd_some hs
    clear hs
    obtain rfl : len = 3 := by simpa using q
    obtain ⟨⟨ci, k, nest⟩, hf, hs2⟩ := Option.bind_eq_some_iff.mp hs1
    clear hs1
    obtain ⟨v, S1, rfl, hs3⟩ := s_v_some hs2
    clear hs2
    obtain ⟨a, S2, rfl, hs4⟩ := s_a_some hs3
    clear hs3
    obtain ⟨hk, hs5⟩ := gd_some hs4
    clear hs4
    simp only [Bool.and_eq_true, beq_iff_eq] at hk
    obtain ⟨hk, hfin⟩ := hk
    obtain ⟨h2, hp, hs6⟩ := Option.bind_eq_some_iff.mp hs5
    clear hs5
    cases hs6
    obtain ⟨w1, w2, w3, w4⟩ := lkF_ok hcl hf
    simp only at w2 w3 w4 hp hk hfin
    obtain ⟨t1, t2⟩ := hW.tag hk (by omega) (by omega)
    obtain ⟨e1, e2, e3, e4⟩ := wso_putf hW hk w2 w3 hp
    obtain ⟨n1, n2⟩ := fits_f G hp
    have k0 := kk rfl
    rw [e3, e4] at k0
    simp only [Nat.sub_self, Nat.add_zero] at k0
    have k1 : ∀ (H1 : Heap) (locs1 : List Loc), H1.size = H.size → va_P (g_D G) cls ((wso G h).set (a - 4) (adr G a, .inr (ci, (flds G h ci a).set k (vv G v)))) H1 → va_D (AX G) ((wso G h).set (a - 4) (adr G a, .inr (ci, (flds G h ci a).set k (vv G v)))) → va_S (AX G) s.heap H1 locs1 → W p l e R s m args below meth c H1 locs1 cells slots Q (F0 m (pc + 3) ls (List.map (vv G) S')) := by
      intro H1 locs1 hz a1 a2 a3
      rw [e1] at a1
      exact k0 H1 locs1 ⟨e2, a1, by rw [hz, hHs, e3]⟩ a3
    show W p l e R s m args below meth c H locs cells slots Q (F0 m pc ls (vv G v :: vv G (.ref a) :: List.map (vv G) S'))
    rw [vv_ref G (by omega)]
    have hc0 := cls_at w2
    have he0 := obj_at hW hk w2
    have hap := va_apart (own := cname (mcl mm)) hts (u_in w2) (fty ci) (ty_all ci w2) (nm_all ci w2) hK hc0
    obtain ⟨r, g1, cell, q1, q2, q3, q4⟩ := hP (a - 4) _ he0
    have hr : r = (cname ci, ftab ci, fnum ci) := Option.some.inj (g1.symm.trans hc0)
    subst hr
    obtain ⟨hSl, hfc, kC, hkC, hkind⟩ := hK.1 ci _ hc0
    obtain ⟨cf, kf, fi, f, hi, hsl⟩ := hSl k w3
    have hlay := hts _ (u_in w2 _ (u_in_lay w3))
    have hst := (u_facts hfc hkC (u_lays hts (u_in w2) w3) hi).1
    have hl9 : k < (flds G h ci a).length := by rw [flds_len]; exact w3
    have fin : ∀ H' : Heap, H'[adr G a]? = some (cell.setSlot f.slot (vv G v)) → H'.size = H.size → (∀ q, q ≠ adr G a → H'[q]? = H[q]?) → W p l e R s m args below meth c H' (locs ++ [⟨adr G a, f.slot⟩]) cells slots Q (F0 m (pc + 3) ls (List.map (vv G) S')) := by
      intro H' e1' e2' e3'
      rw [hsl] at e1' ⊢
      exact k1 H' _ e2' (hP.set hD he0 ⟨_, hc0, t_OB.to (V := updV (vp_V (flds G h ci a)) k (vv G v)) ⟨_, e1', q2, q3, t_set q4 hap w3 (vv G v)⟩ (fun j _ => vp_updV_set hl9 (vv G v) j)⟩ e3') (hD.set he0) (hS.put e2' e3' (hD.2 (a - 4) _ he0))
    cases hff : ffin ci k with
    | false =>
      unfold u_lay at hlay
      rw [if_neg (show ¬ (ftab ci k).2.2.2 = true from fun z => by rw [show (ftab ci k).2.2.2 = false from hff] at z; cases z)] at hlay
      have h6 := u_store hfc hkC hkind hlay hi (ty_all ci w2 k w3) n1 n2
      cases nest with
      | false => exact W.putK hx hb (f := f) ⟨hown, hts _ (gw w1 rfl), ⟨_, _, _, by rw [← w4]; exact hi⟩, hst⟩ (by rw [q2]; exact h6) q1 q3 (by rw [hsl]; exact k2_hasslot (q4 k w3)) rfl rfl hd fin
      | true => exact va_WputK hx hb (f := f) hown (va_Nw.use rfl (hN _ w1 rfl)) (by rw [← w4]; exact hi) hst (by rw [q2]; exact h6) q1 q3 (by rw [hsl]; exact k2_hasslot (q4 k w3)) rfl rfl hd fin
    | true =>
      simp only [hff, Bool.not_true, Bool.false_or, Bool.and_eq_true, beq_iff_eq, Bool.not_eq_true'] at hfin
      obtain ⟨⟨f1, f2⟩, f3⟩ := hfin
      subst f3
      unfold u_lay at hlay
      rw [if_pos (show (ftab ci k).2.2.2 = true from hff)] at hlay
      have hcf : m.cls = cf := by
        obtain ⟨_, _, c', _, _, _, -, -, hf', -, -, -, hown2, -⟩ := Cond.laysFinal_spec hlay
        have e1 : c' = cf := by have := hi.symm.trans hf'; simp at this; exact this.1.symm
        rw [w4, ← f2] at hown2
        rw [← e1]; exact Option.some.inj (hown.symm.trans hown2)
      have h6 := u_fits hfc hkC hkind (Or.inr hlay) hi (ty_all ci w2 k w3) n1 n2
      exact W.putFinK hx hb hown (hts _ (gw w1 rfl)) (by rw [← w4]; exact hi) hst hcf (hin f1) (by rw [q2]; exact h6) q1 q3 (by rw [hsl]; exact k2_hasslot (q4 k w3)) rfl rfl hd fin
  | getstatic idx =>
    obtain ⟨q, hs1⟩ := gd_some hs
    clear hs
    obtain rfl : len = 3 := by simpa using q
    obtain ⟨⟨x0, nest⟩, hf, hs2⟩ := Option.bind_eq_some_iff.mp hs1
    clear hs1
    cases hs2
    obtain ⟨w1, w2⟩ := lkS_ok hcl hf
    simp only at w2
    have k0 := kk rfl H locs hR hS
    simp only [Nat.sub_self, Nat.add_zero] at k0
    have k1 : W p l e R s m args below meth c H locs cells slots Q (F0 m (pc + 3) ls (.ref (g_xa G x0) :: List.map (vv G) S)) := by
      have e1 : vv G (.ref x0) = .ref (g_xa G x0) := by
        rw [vv_ref G (by omega)]
        congr 1
        exact if_pos (by omega)
      rw [← e1]
      exact k0
    cases nest with
    | false => exact va_gets hx hb (hZ x0 w2) hS hown (hts _ (gw w1 rfl)) (fun x hx => hx) hd k1
    | true => exact va_getsN hx hb (hZ x0 w2) hS hown (va_Nw.use rfl (hN _ w1 rfl)) (fun x hx => hx) hd k1
  | iaload =>
    obtain ⟨q, hs1⟩ := gd_some hs
    clear hs
    obtain rfl : len = 1 := by simpa using q
    obtain ⟨j, S1, rfl, hs2⟩ := s_i_some hs1
    clear hs1
    obtain ⟨a, S2, rfl, hs3⟩ := s_a_some hs2
    clear hs2
    obtain ⟨hk, hs4⟩ := gd_some hs3
    clear hs3
    simp only [Bool.and_eq_true, Bool.or_eq_true, beq_iff_eq] at hk
    obtain ⟨hk, hj⟩ := hk
    cases hs4
    have k0 := kk rfl H locs hR hS
    simp only [Nat.sub_self, Nat.add_zero] at k0
    show W p l e R s m args below meth c H locs cells slots Q (F0 m pc ls (.int j :: vv G (.ref a) :: List.map (vv G) S2))
    rcases hk with hk | hk
    · obtain ⟨t1, t2⟩ := hW.tag hk (by omega) (by omega)
      rw [vv_ref G (by omega)]
      exact va_iald hx hb hK hP (a - 4) 0 (arr_at hW hk) rfl (inb_in hj) hd k0
    · have ha : 1 ≤ a ∧ a < 4 := by
        obtain ⟨_, v2, v3, v4, v5⟩ := hW
        rcases Nat.lt_or_ge a 4 with q | q
        · rcases Nat.eq_zero_or_pos a with q2 | q2
          · rw [q2, v4] at hk; cases hk
          · exact ⟨q2, q⟩
        · rcases Nat.lt_or_ge a (hp_n h) with q2 | q2
          · have := v2 a q q2
            rw [hk] at this
            exact absurd this (by decide)
          · rw [v3 a q2] at hk; cases hk
      obtain ⟨_, v6, v7⟩ := hW.2.2.2.2 a ha.1 ha.2
      rw [vv_ref G (a := a) (Nat.pos_iff_ne_zero.mp ha.1), show adr G a = g_xa G a from if_pos ha.2]
      obtain ⟨cell, c1, c2, c3, c4, c5, c6, c7⟩ := hEX a ha.1 ha.2
      rw [v6] at hj
      have hj2 := inb_in hj
      have hlt : ix j < g_xl G a := Nat.not_le.mp fun q => hj2 (Or.inr q)
      rw [v7] at k0
      exact W.iald (v := .int (g_xi G a (ix j))) hx hb (by rw [hS.2.1 _ (Array.getElem?_eq_some_iff.mp c1).1 c7]; exact c1) c2 c3 (by rintro (q | q); exact hj2 (Or.inl q); exact absurd (Nat.lt_of_lt_of_le hlt c4) (Nat.not_lt.mpr q)) (c6 _ hlt) rfl rfl hd k0
  | iastore =>
    obtain ⟨q, hs1⟩ := gd_some hs
    clear hs
    obtain rfl : len = 1 := by simpa using q
    obtain ⟨x, S1, rfl, hs2⟩ := s_i_some hs1
    clear hs1
    obtain ⟨j, S2, rfl, hs3⟩ := s_i_some hs2
    clear hs2
    obtain ⟨a, S3, rfl, hs4⟩ := s_a_some hs3
    clear hs3
    obtain ⟨hk, hs5⟩ := gd_some hs4
    clear hs4
    simp only [Bool.and_eq_true, beq_iff_eq] at hk
    obtain ⟨hk, hj⟩ := hk
    cases hs5
    obtain ⟨t1, t2⟩ := hW.tag hk (by omega) (by omega)
    have k0 := kk rfl
    rw [hp_n_wi, hp_s_wi] at k0
    simp only [Nat.sub_self, Nat.add_zero] at k0
    show W p l e R s m args below meth c H locs cells slots Q (F0 m pc ls (.int x :: .int j :: vv G (.ref a) :: List.map (vv G) S'))
    rw [vv_ref G (by omega)]
    have ha0 := arr_at hW hk
    refine W.iast hx hb (hP (a - 4) _ ha0) ((hK.2 0 _ rfl).1 (hp_l h a) (fun j => .int (hp_i h a j))) (fun q => by cases q) (by show ¬ (j < 0 ∨ (arrV _ _ _).slots.size ≤ _); rw [arrV_size]; exact inb_in hj) rfl rfl hd fun H1 e1 z oq => ?_
    refine k0 H1 _ ⟨hW.wi t1, ?_, by rw [z, hHs]; rfl⟩ (hS.put z oq (hD.2 (a - 4) _ ha0))
    rw [← wso_ist hW hk]
    refine hP.set hD ha0 ?_ oq
    show H1[adr G a]? = some (vp_cell _ _)
    rw [e1, vp_cell_i, vp_cell_i, arrV_store]
    congr 2
    funext q
    by_cases hq : q = j.toNatClampNeg
    · subst hq
      simp [updV, upd]
    · simp [updV, upd, hq]
  | aaload =>
    obtain ⟨q, hs1⟩ := gd_some hs
    clear hs
    obtain rfl : len = 1 := by simpa using q
    obtain ⟨j, S1, rfl, hs2⟩ := s_i_some hs1
    clear hs1
    obtain ⟨a, S2, rfl, hs3⟩ := s_a_some hs2
    clear hs2
    obtain ⟨hk, hs4⟩ := gd_some hs3
    clear hs3
    simp only [Bool.and_eq_true, decide_eq_true_eq] at hk
    obtain ⟨hk, hj⟩ := hk
    cases hs4
    have k0 := kk rfl H locs hR hS
    simp only [Nat.sub_self, Nat.add_zero] at k0
    obtain ⟨t1, t2⟩ := hW.tag (t := hp_k h a) rfl (by omega) (by omega)
    obtain ⟨t0, ht0⟩ := tys_at G (rar_ok hW hk)
    show W p l e R s m args below meth c H locs cells slots Q (F0 m pc ls (.int j :: vv G (.ref a) :: List.map (vv G) S2))
    rw [vv_ref G (by omega)]
    exact va_aldq hx hb hK hP (a - 4) t0 (rar_at hW hk) ht0 (inb_in hj) hd k0
  | aastore =>
    obtain ⟨q, hs1⟩ := gd_some hs
    clear hs
    obtain rfl : len = 1 := by simpa using q
    obtain ⟨v, S1, rfl, hs2⟩ := s_a_some hs1
    clear hs1
    obtain ⟨j, S2, rfl, hs3⟩ := s_i_some hs2
    clear hs2
    obtain ⟨a, S3, rfl, hs4⟩ := s_a_some hs3
    clear hs3
    obtain ⟨hk, hs5⟩ := gd_some hs4
    clear hs4
    simp only [Bool.and_eq_true, Bool.or_eq_true, decide_eq_true_eq, beq_iff_eq] at hk
    obtain ⟨⟨hk, hj⟩, hv⟩ := hk
    cases hs5
    obtain ⟨t1, t2⟩ := hW.tag (t := hp_k h a) rfl (by omega) (by omega)
    have ho := rar_ok hW hk
    obtain ⟨t0, ht0⟩ := tys_at G ho
    have ha0 := rar_at hW hk
    have k0 := kk rfl
    rw [hp_n_wa, hp_s_wa] at k0
    simp only [Nat.sub_self, Nat.add_zero] at k0
    have hin2 := inb_in hj
    have hlt : ix j < hp_l h a := Nat.not_le.mp fun q => hin2 (Or.inr q)
    show W p l e R s m args below meth c H locs cells slots Q (F0 m pc ls (vv G (.ref v) :: .int j :: vv G (.ref a) :: List.map (vv G) S'))
    rw [vv_ref G (a := a) (by omega)]
    have fin : ∀ (o : Option Nat) (H1 : Heap), o = rfo G v → H1[adr G a]? = some ((vp_cell (g_cR G (hp_k h a - 200)) (hp_l h a, .inr (.inr (.inr (.inr (fun j => rfo G (hp_a h a j))))))).setSlot (ix j) (va_rf o)) → H1.size = H.size → (∀ q, q ≠ adr G a → H1[q]? = H[q]?) → W p l e R s m args below meth c H1 (locs ++ [⟨adr G a, ix j⟩]) cells slots Q (F0 m (pc + 1) ls (List.map (vv G) S')) := by
      intro o H1 hov e1 z oq
      refine k0 H1 _ ⟨hW.wa, ?_, by rw [z, hHs]; rfl⟩ (hS.put z oq (hD.2 (a - 4) _ ha0))
      rw [← wso_ast (k := ix j) hW hk hov]
      refine hP.set hD ha0 ?_ oq
      show H1[adr G a]? = some (vp_cell _ _)
      rw [e1, vp_cell_q, vp_cell_q, arrV_store]
      congr 2
      funext q
      by_cases hq : q = j.toNatClampNeg
      · subst hq
        simp [updV, va_up]
      · simp [updV, va_up, hq]
    by_cases hv0 : v = 0
    · subst hv0
      show W p l e R s m args below meth c H locs cells slots Q (F0 m pc ls (.null :: .int j :: .ref (adr G a) :: List.map (vv G) S'))
      exact va_WaastN (C := cname (hp_k h a - 200)) hx hb (hP (a - 4) _ ha0) ((hK.2 t0 _ ht0).1 (hp_l h a) (fun j => va_rf (rfo G (hp_a h a j)))) (fun h => by cases h) (by show ¬ (j < 0 ∨ (arrV _ _ _).slots.size ≤ _); rw [arrV_size]; exact hin2) rfl rfl hd fun H1 e1 z oq => fin none H1 rfl e1 z oq
    · have hkv : hp_k h v + 199 = hp_k h a := by rcases hv with q | q; exact absurd q hv0; exact q
      have hci : hp_k h a - 200 < 12 := (lkO_ok ho).2
      have hkv2 : hp_k h v = (hp_k h a - 200) + 1 := by omega
      have hv1 := obj_at hW hkv2 hci
      rw [vv_ref G hv0]
      obtain ⟨r', hr', cellV, g1, g2, g3, -⟩ := hP (v - 4) _ hv1
      have hcls := (hK.1 (hp_k h a - 200) _ (cls_at hci)).2
      obtain ⟨kA, comp, k1, k2, k3, -⟩ := (hK.2 t0 _ ht0).2
      have hcomp : comp = (g_D G).1 (hp_k h a - 200) := Option.some.inj (k3.symm.trans hcls.1)
      subst hcomp
      obtain ⟨kC, hkC, -⟩ := hcls.2
      exact W.aast hx hb (hP (a - 4) _ ha0) (fun q h => by cases h) (fun h => by cases h) k1 k2 rfl hkC ⟨fun q => hin2 (Or.inl q), by show _ < (arrV _ _ _).slots.size; rw [arrV_size]; exact hlt⟩ g1 (fun q h => by rw [g3] at h; cases h) (by rw [g2]; exact hkC) (by rw [g2]; exact va_assign hcls) rfl rfl hd fun H1 e1 z oq => fin (some (adr G v)) H1 (by rw [show rfo G v = some (adr G v) from if_neg hv0]) e1 z oq
  | arraylength =>
    obtain ⟨q, hs1⟩ := gd_some hs
    clear hs
    obtain rfl : len = 1 := by simpa using q
    obtain ⟨a, S1, rfl, hs2⟩ := s_a_some hs1
    clear hs1
    obtain ⟨hk, hs3⟩ := gd_some hs2
    clear hs2
    have hk : 99 ≤ hp_k h a := of_decide_eq_true hk
    cases hs3
    have k0 := kk rfl H locs hR hS
    simp only [Nat.sub_self, Nat.add_zero] at k0
    show W p l e R s m args below meth c H locs cells slots Q (F0 m pc ls (vv G (.ref a) :: List.map (vv G) S1))
    by_cases h9 : hp_k h a = 99
    · have ha : 1 ≤ a ∧ a < 4 := by
        obtain ⟨_, v2, v3, v4, v5⟩ := hW
        rcases Nat.lt_or_ge a 4 with q | q
        · rcases Nat.eq_zero_or_pos a with q2 | q2
          · rw [q2, v4] at h9; cases h9
          · exact ⟨q2, q⟩
        · rcases Nat.lt_or_ge a (hp_n h) with q2 | q2
          · have := v2 a q q2
            rw [h9] at this
            exact absurd this (by decide)
          · rw [v3 a q2] at h9; cases h9
      obtain ⟨_, v6, v7⟩ := hW.2.2.2.2 a ha.1 ha.2
      rw [vv_ref G (a := a) (Nat.pos_iff_ne_zero.mp ha.1), show adr G a = g_xa G a from if_pos ha.2]
      obtain ⟨cell, c1, c2, c3, c4, c5, c6, c7⟩ := hEX a ha.1 ha.2
      rw [v6] at k0
      exact W.alen (n := Int32.ofNat (g_xl G a)) hx hb (by rw [hS.2.1 _ (Array.getElem?_eq_some_iff.mp c1).1 c7]; exact c1) c2 c5 rfl rfl hd k0
    · obtain ⟨t1, t2⟩ := hW.tag (t := hp_k h a) rfl (by omega) h9
      rw [vv_ref G (by omega)]
      by_cases h1 : hp_k h a = 100
      · exact va_alen hx hb hK hP (a - 4) 0 (arr_at hW h1) rfl rfl hd k0
      · have h2 : 200 ≤ hp_k h a := by
          have := hW.2.1 a t1 t2
          simp only [okt, Bool.or_eq_true, Bool.and_eq_true, decide_eq_true_eq, beq_iff_eq] at this
          rcases this with (q | q) | q
          · omega
          · omega
          · exact q.1
        obtain ⟨t0, ht0⟩ := tys_at G (rar_ok hW h2)
        exact va_alen hx hb hK hP (a - 4) t0 (rar_at hW h2) ht0 rfl hd k0
  | newarray t =>
    cases t with
    | int =>
      obtain ⟨q, hs1⟩ := gd_some hs
      clear hs
      obtain rfl : len = 2 := by simpa using q
      obtain ⟨j, S1, rfl, hs2⟩ := s_i_some hs1
      clear hs1
      obtain ⟨hk, hs3⟩ := gd_some hs2
      clear hs2
      simp only [Bool.and_eq_true, decide_eq_true_eq] at hk
      cases hs3
      rw [hp_n_mk] at hcells kk
      rw [hp_s_mk] at hslots kk
      rw [show hp_n h + 1 - hp_n h = 1 by omega] at hcells kk
      rw [show hp_s h + ix j - hp_s h = ix j by omega] at hslots kk
      refine va_newaK (N := ix j) hx hb (hts _ (gw (at_mem ((by have := ckX; simp only [Bool.and_eq_true] at this; exact this.1.1.1.1.1.1.1.1))) rfl)) rfl hd rfl (k2_nlt hk.1) rfl (by show ix j * 4 ≤ _; omega) hcells hslots hHs fun H1 cA e1 z1 o1 hAr hNm => ?_
      have hcA : cA = g_cI G := by
        have h5 : s.vm.findClass ("[" ++ FieldType.int.toString) = some (g_cI G) := (hK.2 0 _ rfl).2
        exact Option.some.inj (hNm.symm.trans h5)
      subst hcA
      have h4 := hW.1
      have hpe : pce G (hp_mk h 100 (ix j) (ix j)) (hp_n h) = .inl (g_cI G, ix j, .inl (fun _ => 0)) := by
        simp [pce, hp_k_mk, hp_l_mk, hp_i_mk]
      have k0 := kk rfl H1 locs ⟨hW.mk rfl, ?_, by rw [z1, hp_n_mk]; omega⟩ ⟨Nat.le_trans hS.1 (by omega), fun x h1 h2 => (o1 x (by have := hS.1; omega)).trans (hS.2.1 x h1 h2), hS.2.2⟩
      · rw [show g_sz G + (hp_n h - 4) = adr G (hp_n h) from (adr_ge G h4).symm]
        have e2 : vv G (.ref (hp_n h)) = .ref (adr G (hp_n h)) := vv_ref G (by omega)
        have k0 : W p l e R s m args below meth c H1 locs (cells + 1) (slots + ix j) Q (F0 m (pc + 2) ls (vv G (.ref (hp_n h)) :: List.map (vv G) S1)) := k0
        rw [e2] at k0
        exact k0
      · rw [wso_mk hW hpe]
        refine (hP.kept (fun k x hx => o1 x.1 (by have := (hP k x hx).lt; omega))).app (fun k x hx => ?_)
        have hz : k < 1 := (List.getElem?_eq_some_iff.mp hx).1
        rw [show k = 0 by omega] at hx
        cases hx
        show H1[g_sz G + (hp_n h - 4)]? = some (vp_cell _ _)
        rw [e1, vp_cell_i]
        rfl
    | _ => cases hs
  | anewarray idx =>
    obtain ⟨q, hs1⟩ := gd_some hs
    clear hs
    obtain rfl : len = 3 := by simpa using q
    obtain ⟨ci, hf, hs2⟩ := Option.bind_eq_some_iff.mp hs1
    clear hs1
    obtain ⟨j, S1, rfl, hs3⟩ := s_i_some hs2
    clear hs2
    obtain ⟨hk, hs4⟩ := gd_some hs3
    clear hs3
    simp only [Bool.and_eq_true, decide_eq_true_eq] at hk
    obtain ⟨⟨ho, hk1⟩, hk2⟩ := hk
    cases hs4
    obtain ⟨w1, w2⟩ := lkK_ok hcl hf
    rw [hp_n_mk] at hcells kk
    rw [hp_s_mk] at hslots kk
    rw [show hp_n h + 1 - hp_n h = 1 by omega] at hcells kk
    rw [show hp_s h + ix j - hp_s h = ix j by omega] at hslots kk
    obtain ⟨t0, ht0⟩ := tys_at G ho
    have hao : va_AO (cname ci) s := by
      obtain ⟨x, hx1, hx2⟩ := List.any_eq_true.mp ho
      have e1 : x.1 = ci := by simpa using hx2
      rw [← e1]
      exact hAO x hx1
    refine W.anew hx hb hown (hts _ (gw w1 rfl)) (va_AO.use hao) rfl hd rfl (k2_nlt hk1) (by show ix j * 4 ≤ _; omega) hcells hslots fun cA kA comp f1 f2 f3 f4 => ?_
    obtain ⟨kA', comp', k1, k2, k3, k4⟩ := (hK.2 t0 _ ht0).2
    have hcA : cA = g_cR G ci := Option.some.inj (f1.symm.trans k4)
    subst hcA
    generalize hH1 : H.push ({ cls := g_cR G ci, slots := Array.replicate (ix j) .null, vm := .none } : Cell) = H1
    have z1 : H1.size = H.size + 1 := by rw [← hH1, Array.size_push]
    have e1 : H1[H.size]? = some (arrV (g_cR G ci) (ix j) (fun _ => .null)) := by rw [← hH1, Array.getElem?_push_size, ← arrV_new]
    have o1 : ∀ q : Nat, q < H.size → H1[q]? = H[q]? := fun q hq => by rw [← hH1, Array.getElem?_push, if_neg (Nat.ne_of_lt hq)]
    have h4 := hW.1
    have hpe : pce G (hp_mk h (200 + ci) (ix j) (ix j)) (hp_n h) = .inl (g_cR G ci, ix j, .inr (.inr (.inr (.inr (fun _ => none))))) := by
      simp [pce, hp_k_mk, hp_l_mk, hp_a_mk, rfo, show ¬ 200 + ci = 100 by omega, show 200 + ci - 200 = ci by omega]
    have k0 := kk rfl H1 locs ⟨hW.mk (by simp [okt, show 200 + ci - 200 = ci by omega, ho]), ?_, by rw [z1, hHs, hp_n_mk]; omega⟩ ⟨Nat.le_trans hS.1 (by omega), fun x h1 h2 => (o1 x (by have := hS.1; omega)).trans (hS.2.1 x h1 h2), hS.2.2⟩
    · rw [hHs, show g_sz G + (hp_n h - 4) = adr G (hp_n h) from (adr_ge G h4).symm]
      have e2 : vv G (.ref (hp_n h)) = .ref (adr G (hp_n h)) := vv_ref G (by omega)
      have k0 : W p l e R s m args below meth c H1 locs (cells + 1) (slots + ix j) Q (F0 m (pc + 3) ls (vv G (.ref (hp_n h)) :: List.map (vv G) S1)) := k0
      rw [e2] at k0
      exact k0
    · rw [wso_mk hW hpe]
      refine (hP.kept (fun k x hx => o1 x.1 (by have := (hP k x hx).lt; omega))).app (fun k x hx => ?_)
      have hz : k < 1 := (List.getElem?_eq_some_iff.mp hx).1
      rw [show k = 0 by omega] at hx
      cases hx
      show H1[g_sz G + (hp_n h - 4)]? = some (vp_cell _ _)
      rw [← hHs, e1, vp_cell_q]
      rfl
  | new idx =>
    obtain ⟨q, hs1⟩ := gd_some hs
    clear hs
    obtain rfl : len = 3 := by simpa using q
    obtain ⟨ci, hf, hs2⟩ := Option.bind_eq_some_iff.mp hs1
    clear hs1
    cases hs2
    obtain ⟨w1, w2⟩ := lkK_ok hcl hf
    rw [hp_n_mk] at hcells kk
    rw [hp_s_mk] at hslots kk
    rw [show hp_n h + 1 - hp_n h = 1 by omega] at hcells kk
    rw [show hp_s h + fnum ci - hp_s h = fnum ci by omega] at hslots kk
    have hc0 := cls_at w2
    have hKn := hK.1 ci _ hc0
    refine W.newcK hx hb hown (hts _ (gw w1 rfl)) (hts _ (w_inst w2)) (hts _ (w_init (by omega))) rfl hd hcells hslots hKn.2.1 hHs fun H1 kC hkC e1 z1 o1 => ?_
    have h4 := hW.1
    have hpe : pce G (hp_mk h (ci + 1) 0 (fnum ci)) (hp_n h) = .inr (ci, flds G (hp_mk h (ci + 1) 0 (fnum ci)) ci (hp_n h)) := by
      simp [pce, hp_k_mk, show ¬ ci + 1 = 100 by omega, show ¬ 200 ≤ ci + 1 by omega]
    have k0 := kk rfl H1 locs ⟨hW.mk (by simp [okt]; omega), ?_, by rw [z1, hp_n_mk]; omega⟩ ⟨Nat.le_trans hS.1 (by omega), fun x h1 h2 => (o1 x (by have := hS.1; omega)).trans (hS.2.1 x h1 h2), hS.2.2⟩
    · rw [show g_sz G + (hp_n h - 4) = adr G (hp_n h) from (adr_ge G h4).symm]
      have e2 : vv G (.ref (hp_n h)) = .ref (adr G (hp_n h)) := vv_ref G (by omega)
      have k0 : W p l e R s m args below meth c H1 locs (cells + 1) (slots + fnum ci) Q (F0 m (pc + 3) ls (vv G (.ref (hp_n h)) :: List.map (vv G) S)) := k0
      rw [e2] at k0
      exact k0
    · rw [wso_mk hW hpe]
      refine (hP.kept (fun k x hx => o1 x.1 (by have := (hP k x hx).lt; omega))).app (fun k x hx => ?_)
      have hz : k < 1 := (List.getElem?_eq_some_iff.mp hx).1
      rw [show k = 0 by omega] at hx
      cases hx
      refine ⟨_, hc0, (u_born (fty ci) hts (u_in w2) hKn hkC e1 (ty_all ci w2)).to (fun k hk => ?_)⟩
      show _ = vp_V (flds G (hp_mk h (ci + 1) 0 (fnum ci)) ci (hp_n h)) k
      have := flds_at G (hp_mk h (ci + 1) 0 (fnum ci)) (hp_n h) hk
      simp only [vp_V, List.getD_eq_getElem?_getD, this, Option.getD_some]
      have hok := List.all_eq_true.mp (all_rg ckT_ok w2) k (List.mem_range.mpr hk)
      generalize fty ci k = ty at hok
      cases ty <;> first | (cases hok; done) | simp [fval, defaultValue, hp_i_mk, hp_a_mk, vv, rfo, va_rf]
  | invokespecial idx =>
    obtain ⟨q, hs1⟩ := gd_some hs
    clear hs
    obtain rfl : len = 3 := by simpa using q
    obtain ⟨⟨t, nest⟩, hf, hs2⟩ := Option.bind_eq_some_iff.mp hs1
    clear hs1
    obtain ⟨ht, hs3⟩ := gd_some hs2
    clear hs2
    simp only [Bool.and_eq_true, beq_iff_eq, Bool.not_eq_true'] at ht
    obtain ⟨rfl, rfl⟩ := ht
    obtain ⟨a, S1, rfl, hs4⟩ := s_a_some hs3
    clear hs3
    obtain ⟨hk, hs5⟩ := gd_some hs4
    clear hs4
    simp only [Bool.and_eq_true, Bool.not_eq_true', decide_eq_true_eq, beq_eq_false_iff_ne, ne_eq] at hk
    cases hs5
    have k0 := kk rfl H locs hR hS
    simp only [Nat.sub_self, Nat.add_zero] at k0
    have hX := ckX
    simp only [Bool.and_eq_true] at hX
    have hcs : (List.map (fun v => v.category) (List.map (vv G) S')).sum ≤ 8 := by
      rw [List.map_map]
      have : (fun v : Value => v.category) ∘ vv G = Value.category := funext fun v => vv_cat G v
      rw [this]
      exact hk.2
    show W p l e R s m args below meth c H locs cells slots Q (F0 m pc ls (vv G (.ref a) :: List.map (vv G) S'))
    rw [vv_ref G hk.1]
    refine W.objInit hx hb hown (hts _ (gw (lkM_ok hcl hf).1 rfl)) (hts _ (gw (at_mem hX.1.2) rfl)) (hts _ (gw (at_mem hX.2) rfl)) rfl (by rw [hml]; exact hl.1) rfl hd hfr ?_ k0
    show 2 * 0 + _ + 12 ≤ _
    omega
  | invokestatic idx =>
    obtain ⟨q, hs1⟩ := gd_some hs
    clear hs
    obtain rfl : len = 3 := by simpa using q
    obtain ⟨⟨t, nest⟩, hf, hs2⟩ := Option.bind_eq_some_iff.mp hs1
    clear hs1
    have hX := ckX
    simp only [Bool.and_eq_true] at hX
    have hcs : ∀ S1 : List Value, (List.map Value.category S1).sum ≤ 8 → (List.map (fun v => v.category) (List.map (vv G) S1)).sum ≤ 8 := by
      intro S1 h8
      rw [List.map_map]
      have : (fun v : Value => v.category) ∘ vv G = Value.category := funext fun v => vv_cat G v
      rw [this]
      exact h8
    cases h91 : (t == 9001) with
    | true =>
      simp only [h91] at hs2
      obtain ⟨ht, hs3⟩ := gd_some hs2
      clear hs2
      have h91 : t = 9001 := by simpa using h91
      subst h91
      have ht : nest = false := by simpa using ht
      subst ht
      obtain ⟨y, S1, rfl, hs4⟩ := s_i_some hs3
      clear hs3
      obtain ⟨x, S2, rfl, hs5⟩ := s_i_some hs4
      clear hs4
      obtain ⟨hk, hs6⟩ := gd_some hs5
      clear hs5
      cases hs6
      have k0 := kk rfl H locs hR hS
      simp only [Nat.sub_self, Nat.add_zero] at k0
      have h8 := hcs S2 (of_decide_eq_true hk)
      exact va_mmax hx hb (by rw [hml]; exact hl.1.symm) hown (hts _ (gw (lkM_ok hcl hf).1 rfl)) (hts _ (gw (at_mem hX.1.1.1.1.1.1.1.2) rfl)) (hts _ (gw (at_mem hX.1.1.1.1.1.1.2) rfl)) (hts _ (gw (at_mem hX.1.1.1.1.1.2) rfl)) hfr (by omega) (by omega) (by omega) hd k0
    | false =>
      simp only [h91] at hs2
      obtain ⟨ht, hs7⟩ := gd_some hs2
      clear hs2
      simp only [Bool.and_eq_true, beq_iff_eq, Bool.not_eq_true'] at ht
      obtain ⟨rfl, rfl⟩ := ht
      obtain ⟨n, S1, rfl, hs8⟩ := s_i_some hs7
      clear hs7
      obtain ⟨dp, S2, rfl, hs9⟩ := s_i_some hs8
      clear hs8
      obtain ⟨b, S3, rfl, hs10⟩ := s_a_some hs9
      clear hs9
      obtain ⟨sp, S4, rfl, hs11⟩ := s_i_some hs10
      clear hs10
      obtain ⟨a, S5, rfl, hs12⟩ := s_a_some hs11
      clear hs11
      obtain ⟨hk, hs13⟩ := gd_some hs12
      clear hs12
      simp only [Bool.and_eq_true, beq_iff_eq, decide_eq_true_eq] at hk
      obtain ⟨⟨⟨⟨⟨⟨⟨ha, hb2⟩, c1⟩, c2⟩, c3⟩, c4⟩, c5⟩, c6⟩ := hk
      cases hs13
      obtain ⟨t1, t2⟩ := hW.tag ha (by omega) (by omega)
      obtain ⟨t3, t4⟩ := hW.tag hb2 (by omega) (by omega)
      have k0 := kk rfl
      rw [hp_n_cp, hp_s_cp] at k0
      simp only [Nat.sub_self, Nat.add_zero] at k0
      have h8 := hcs S' c6
      obtain ⟨e1, e2⟩ := wso_cp (a := a) (sp := ix sp) (dp := ix dp) (n := ix n) hW hb2
      show W p l e R s m args below meth c H locs cells slots Q (F0 m pc ls (.int n :: .int dp :: vv G (.ref b) :: .int sp :: vv G (.ref a) :: List.map (vv G) S'))
      rw [vv_ref G (a := b) (by omega), vv_ref G (a := a) (by omega)]
      have hP0 := hP (b - 4) _ (arr_at hW hb2)
      refine r_copy hx hb (by rw [hml]; exact hl.1.symm) hown (hts _ (gw (lkM_ok hcl hf).1 rfl)) (hts _ (gw (at_mem hX.1.1.1.1.2) rfl)) (hts _ (gw (at_mem hX.1.1.1.2) rfl)) (hts _ (gw (at_mem hX.1.1.2) rfl)) (hK.2 0 _ rfl).1 (f := fun j => hp_i h a j) (g := fun j => hp_i h b j) (hP (a - 4) _ (arr_at hW ha)) hP0 c1 c2 c3 c4 c5 hfr (by omega) hd (fun H1 L2 hL2 hz1 e3 oq => ?_)
      refine k0 H1 _ ⟨e2, ?_, by rw [hz1, hHs]; rfl⟩ ⟨by rw [hz1]; exact hS.1, fun q g1 g2 => ?_, fun q hq => ?_⟩
      · rw [← e1]
        exact hP.set hD (arr_at hW hb2) e3 oq
      · rw [oq q (fun z => g2 (by rw [z]; exact hD.2 (b - 4) _ (arr_at hW hb2)))]
        exact hS.2.1 q g1 g2
      · rcases List.mem_append.mp hq with z | z
        · exact hS.2.2 q z
        · rw [hL2 q z]
          exact hD.2 (b - 4) _ (arr_at hW hb2)
  | _ => cases hni
end Snd
end
section
/-! SOUNDNESS 5: calls, and a whole run -/
def Mono (h : HP) (r : Option (Nat × List Value × List Value × HP)) : Prop := ∀ pc' L' S' h', r = some (pc', L', S', h') → hp_n h ≤ hp_n h' ∧ hp_s h ≤ hp_s h'
theorem Mono.n (h : HP) : Mono h none := fun _ _ _ _ e => by cases e
theorem Mono.g {h : HP} {b : Bool} {x : Option (Nat × List Value × List Value × HP)} (k : Mono h x) : Mono h (gd b x) := fun _ _ _ _ e => k _ _ _ _ (gd_some e).2
theorem Mono.i {h : HP} {S : List Value} {f : Int32 → List Value → Option (Nat × List Value × List Value × HP)} (k : ∀ x S, Mono h (f x S)) : Mono h (s_i S f) := fun _ _ _ _ e => by
  obtain ⟨x, S', -, e⟩ := s_i_some e
  exact k x S' _ _ _ _ e
theorem Mono.j {h : HP} {S : List Value} {f : Int64 → List Value → Option (Nat × List Value × List Value × HP)} (k : ∀ x S, Mono h (f x S)) : Mono h (s_j S f) := fun _ _ _ _ e => by
  obtain ⟨x, S', -, e⟩ := s_j_some e
  exact k x S' _ _ _ _ e
theorem Mono.a {h : HP} {S : List Value} {f : Nat → List Value → Option (Nat × List Value × List Value × HP)} (k : ∀ x S, Mono h (f x S)) : Mono h (s_a S f) := fun _ _ _ _ e => by
  obtain ⟨x, S', -, e⟩ := s_a_some e
  exact k x S' _ _ _ _ e
theorem Mono.v {h : HP} {S : List Value} {f : Value → List Value → Option (Nat × List Value × List Value × HP)} (k : ∀ x S, Mono h (f x S)) : Mono h (s_v S f) := fun _ _ _ _ e => by
  obtain ⟨x, S', -, e⟩ := s_v_some e
  exact k x S' _ _ _ _ e
theorem Mono.b {α : Type} {h : HP} {o : Option α} {f : α → Option (Nat × List Value × List Value × HP)} (k : ∀ x, Mono h (f x)) : Mono h (o.bind f) := fun _ _ _ _ e => by
  obtain ⟨x, -, e⟩ := Option.bind_eq_some_iff.mp e
  exact k x _ _ _ _ e
theorem Mono.s {h h' : HP} {pc : Nat} {L S : List Value} (h1 : hp_n h ≤ hp_n h') (h2 : hp_s h ≤ hp_s h') : Mono h (some (pc, L, S, h')) := fun _ _ _ _ e => by
  cases e
  exact ⟨h1, h2⟩
theorem Mono.jm {pc : Nat} {off : Int} {L S : List Value} {h : HP} : Mono h (jmp pc off L S h) := Mono.g (Mono.s (Nat.le_refl _) (Nat.le_refl _))
theorem Mono.ji {b : Bool} {pc : Nat} {off : Int} {L S : List Value} {h : HP} : Mono h (jif b pc off L S h) := by
  refine Mono.g ?_
  cases b <;> exact Mono.s (Nat.le_refl _) (Nat.le_refl _)
theorem fput_n {ty : FieldType} {h h' : HP} {a k : Nat} {v : Value} (e : fput ty h a k v = some h') : hp_n h' = hp_n h ∧ hp_s h' = hp_s h := by
  unfold fput at e
  split at e
  · cases e; exact ⟨rfl, rfl⟩
  · obtain ⟨-, e⟩ := gd_some e
    cases e; exact ⟨rfl, rfl⟩
  · cases e; exact ⟨rfl, rfl⟩
  · cases e; exact ⟨rfl, rfl⟩
  · cases e
theorem stp_mono (m pc : Nat) (i : Instr) (len : Nat) (L S : List Value) (h : HP) : Mono h (stp m pc i len L S h) := by
  have q := Mono.s (h := h) (h' := h) (pc := 0) (L := []) (S := []) (Nat.le_refl _) (Nat.le_refl _)
  cases i with
  | iinc k n =>
    refine Mono.g ?_
    cases lget L k <;> first | exact Mono.n h | exact Mono.s (Nat.le_refl _) (Nat.le_refl _)
  | tableswitch d lo hi offs =>
    refine Mono.i fun x S => ?_
    cases (decide (x.toInt < lo) || decide (hi < x.toInt)) with
    | true => exact Mono.jm
    | false => exact Mono.b fun off => Mono.jm
  | lookupswitch d ps => exact Mono.i fun x S => Mono.g Mono.jm
  | putfield idx =>
    refine Mono.g (Mono.b fun f => Mono.v fun v S => Mono.a fun a S => Mono.g ?_)
    intro pc' L' S' h' e
    obtain ⟨h2, hp, e⟩ := Option.bind_eq_some_iff.mp e
    cases e
    obtain ⟨e1, e2⟩ := fput_n hp
    exact ⟨by rw [e1]; exact Nat.le_refl _, by rw [e2]; exact Nat.le_refl _⟩
  | invokestatic idx =>
    refine Mono.g (Mono.b fun t => ?_)
    cases (t.1 == 9001) with
    | true => exact Mono.g (Mono.i fun y S => Mono.i fun x S => Mono.g (Mono.s (Nat.le_refl _) (Nat.le_refl _)))
    | false => exact Mono.g (Mono.i fun n S => Mono.i fun dp S => Mono.a fun b S => Mono.i fun sp S => Mono.a fun a S => Mono.g (Mono.s (Nat.le_refl _) (Nat.le_refl _)))
  | invokespecial idx => exact Mono.g (Mono.b fun t => Mono.g (Mono.a fun a S => Mono.g (Mono.s (Nat.le_refl _) (Nat.le_refl _))))
  | if_acmp cd off =>
    cases cd with
    | eq => exact Mono.g (Mono.a fun b S => Mono.a fun a S => Mono.g Mono.ji)
    | ne => exact Mono.g (Mono.a fun b S => Mono.a fun a S => Mono.g Mono.ji)
  | newarray t =>
    cases t with
    | int => exact Mono.g (Mono.i fun j S => Mono.g (Mono.s (Nat.le_succ _) (Nat.le_add_right _ _)))
    | _ => exact Mono.n h
  | anewarray idx => exact Mono.g (Mono.b fun ci => Mono.i fun j S => Mono.g (Mono.s (Nat.le_succ _) (Nat.le_add_right _ _)))
  | new idx => exact Mono.g (Mono.b fun ci => Mono.s (Nat.le_succ _) (Nat.le_add_right _ _))
  | getfield idx => exact Mono.g (Mono.b fun f => Mono.a fun a S => Mono.g (Mono.s (Nat.le_refl _) (Nat.le_refl _)))
  | getstatic idx => exact Mono.g (Mono.b fun f => Mono.s (Nat.le_refl _) (Nat.le_refl _))
  | ldc idx => exact Mono.g (Mono.b fun f => Mono.s (Nat.le_refl _) (Nat.le_refl _))
  | iastore => exact Mono.g (Mono.i fun x S => Mono.i fun j S => Mono.a fun a S => Mono.g (Mono.s (Nat.le_refl _) (Nat.le_refl _)))
  | aastore => exact Mono.g (Mono.a fun x S => Mono.i fun j S => Mono.a fun a S => Mono.g (Mono.s (Nat.le_refl _) (Nat.le_refl _)))
  | iaload => exact Mono.g (Mono.i fun j S => Mono.a fun a S => Mono.g (Mono.s (Nat.le_refl _) (Nat.le_refl _)))
  | aaload => exact Mono.g (Mono.i fun j S => Mono.a fun a S => Mono.g (Mono.s (Nat.le_refl _) (Nat.le_refl _)))
  | arraylength => exact Mono.g (Mono.a fun a S => Mono.g (Mono.s (Nat.le_refl _) (Nat.le_refl _)))
  | ifCond c off => exact Mono.g (Mono.i fun a S => Mono.ji)
  | if_icmp c off => exact Mono.g (Mono.i fun a S => Mono.i fun a S => Mono.ji)
  | ifnull off => exact Mono.g (Mono.a fun a S => Mono.ji)
  | ifnonnull off => exact Mono.g (Mono.a fun a S => Mono.ji)
  | goto off => exact Mono.g Mono.jm
  | dup => exact Mono.g (Mono.v fun a S => Mono.g (Mono.s (Nat.le_refl _) (Nat.le_refl _)))
  | pop => exact Mono.g (Mono.v fun a S => Mono.g (Mono.s (Nat.le_refl _) (Nat.le_refl _)))
  | dup2 => exact Mono.g (Mono.v fun a S => Mono.v fun a S => Mono.g (Mono.s (Nat.le_refl _) (Nat.le_refl _)))
  | istore k => exact Mono.g (Mono.v fun a S => Mono.g (Mono.s (Nat.le_refl _) (Nat.le_refl _)))
  | istore_n k => exact Mono.g (Mono.v fun a S => Mono.g (Mono.s (Nat.le_refl _) (Nat.le_refl _)))
  | astore k => exact Mono.g (Mono.v fun a S => Mono.g (Mono.s (Nat.le_refl _) (Nat.le_refl _)))
  | astore_n k => exact Mono.g (Mono.v fun a S => Mono.g (Mono.s (Nat.le_refl _) (Nat.le_refl _)))
  | iload k => exact Mono.g (Mono.g (Mono.s (Nat.le_refl _) (Nat.le_refl _)))
  | iload_n k => exact Mono.g (Mono.g (Mono.s (Nat.le_refl _) (Nat.le_refl _)))
  | aload k => exact Mono.g (Mono.g (Mono.s (Nat.le_refl _) (Nat.le_refl _)))
  | aload_n k => exact Mono.g (Mono.g (Mono.s (Nat.le_refl _) (Nat.le_refl _)))
  | lload_n k => exact Mono.g (Mono.g (Mono.s (Nat.le_refl _) (Nat.le_refl _)))
  | idiv => exact Mono.g (Mono.i fun a S => Mono.i fun a S => Mono.g (Mono.s (Nat.le_refl _) (Nat.le_refl _)))
  | irem => exact Mono.g (Mono.i fun a S => Mono.i fun a S => Mono.g (Mono.s (Nat.le_refl _) (Nat.le_refl _)))
  | i2l => exact Mono.g (Mono.i fun a S => Mono.s (Nat.le_refl _) (Nat.le_refl _))
  | l2i => exact Mono.g (Mono.j fun a S => Mono.s (Nat.le_refl _) (Nat.le_refl _))
  | i2b => exact Mono.g (Mono.i fun a S => Mono.s (Nat.le_refl _) (Nat.le_refl _))
  | iadd => exact Mono.g (Mono.i fun a S => Mono.i fun a S => Mono.s (Nat.le_refl _) (Nat.le_refl _))
  | isub => exact Mono.g (Mono.i fun a S => Mono.i fun a S => Mono.s (Nat.le_refl _) (Nat.le_refl _))
  | imul => exact Mono.g (Mono.i fun a S => Mono.i fun a S => Mono.s (Nat.le_refl _) (Nat.le_refl _))
  | iand => exact Mono.g (Mono.i fun a S => Mono.i fun a S => Mono.s (Nat.le_refl _) (Nat.le_refl _))
  | ior => exact Mono.g (Mono.i fun a S => Mono.i fun a S => Mono.s (Nat.le_refl _) (Nat.le_refl _))
  | ixor => exact Mono.g (Mono.i fun a S => Mono.i fun a S => Mono.s (Nat.le_refl _) (Nat.le_refl _))
  | ishl => exact Mono.g (Mono.i fun a S => Mono.i fun a S => Mono.s (Nat.le_refl _) (Nat.le_refl _))
  | ladd => exact Mono.g (Mono.j fun a S => Mono.j fun a S => Mono.s (Nat.le_refl _) (Nat.le_refl _))
  | lmul => exact Mono.g (Mono.j fun a S => Mono.j fun a S => Mono.s (Nat.le_refl _) (Nat.le_refl _))
  | lcmp => exact Mono.g (Mono.j fun a S => Mono.j fun a S => Mono.s (Nat.le_refl _) (Nat.le_refl _))
  | iconst n => exact Mono.g (Mono.s (Nat.le_refl _) (Nat.le_refl _))
  | bipush n => exact Mono.g (Mono.s (Nat.le_refl _) (Nat.le_refl _))
  | sipush n => exact Mono.g (Mono.s (Nat.le_refl _) (Nat.le_refl _))
  | aconst_null => exact Mono.g (Mono.s (Nat.le_refl _) (Nat.le_refl _))
  | _ => exact Mono.n h
theorem prun_mono : ∀ (k m pc : Nat) (L S : List Value) (h : HP) (r : Option Value) (h' : HP), prun k m pc L S h = some (r, h') → hp_n h ≤ hp_n h' ∧ hp_s h ≤ hp_s h' := by
  intro k
  induction k with
  | zero => intro m pc L S h r h' e; cases e
  | succ k ih =>
    intro m pc L S h r h' e
    rw [prun] at e
    cases hd : decode (mb m) pc with
    | error x => rw [hd] at e; cases e
    | ok q =>
      obtain ⟨i, len⟩ := q
      rw [hd] at e
      simp only at e
      cases hr : rets m i len S with
      | some r0 => rw [hr] at e; cases e; exact ⟨Nat.le_refl _, Nat.le_refl _⟩
      | none =>
        rw [hr] at e
        simp only at e
        cases hc : call m i len S h with
        | some q =>
          obtain ⟨m', as, S'⟩ := q
          rw [hc] at e
          simp only at e
          cases h1 : prun k m' 0 (locs0 m' as) [] h with
          | none => rw [h1] at e; cases e
          | some q1 =>
            obtain ⟨r1, h1'⟩ := q1
            rw [h1] at e
            have a := ih _ _ _ _ _ _ _ h1
            have b := ih _ _ _ _ _ _ _ e
            exact ⟨Nat.le_trans a.1 b.1, Nat.le_trans a.2 b.2⟩
        | none =>
          rw [hc] at e
          simp only at e
          cases hs : stp m pc i len L S h with
          | none => rw [hs] at e; cases e
          | some q1 =>
            obtain ⟨pc', L', S', h2⟩ := q1
            rw [hs] at e
            have a := stp_mono m pc i len L S h _ _ _ _ hs
            have b := ih _ _ _ _ _ _ _ e
            exact ⟨Nat.le_trans a.1 b.1, Nat.le_trans a.2 b.2⟩
/-- what a call says -/
theorem call_some {m : Nat} {i : Instr} {len : Nat} {S : List Value} {h : HP} {m' : Nat} {as S' : List Value} (e : call m i len S h = some (m', as, S')) :
    ∃ idx nest, len = 3 ∧ lkM (mcl m) idx = some (m', nest) ∧ kcl i = some (mkd m', idx) ∧ m' < 9000 ∧ mrf m' < mrf m ∧ 8 + (mxl m' + 11) + mrl m' ≤ mrl m ∧ mnp m' ≤ S.length ∧ (S'.map Value.category).sum ≤ 8 ∧ (mlong m' = true ∨ ∀ v ∈ as, v.category = 1) ∧ rcv m' as (hp_k h) = true ∧ S = as.reverse ++ S' ∧ as.length = mnp m' := by
  obtain ⟨⟨kd, idx⟩, hk, e⟩ := Option.bind_eq_some_iff.mp e
  obtain ⟨⟨t, nest⟩, hf, e⟩ := Option.bind_eq_some_iff.mp e
  obtain ⟨c1, e⟩ := gd_some e
  obtain ⟨c2, e⟩ := gd_some e
  cases e
  simp only [Bool.and_eq_true, beq_iff_eq, decide_eq_true_eq, Bool.or_eq_true, List.all_eq_true] at c1
  obtain ⟨⟨⟨⟨⟨⟨⟨a1, a2⟩, a3⟩, a4⟩, a5⟩, a6⟩, a7⟩, a8⟩ := c1
  refine ⟨idx, nest, a1, hf, by rw [hk, a3], a2, a4, a5, a6, a7, ?_, c2, by rw [List.reverse_reverse, List.take_append_drop], by rw [List.length_reverse, List.length_take]; exact Nat.min_eq_left a6⟩
  rcases a8 with q | q
  · exact Or.inl q
  · exact Or.inr fun v hv => q v (List.mem_reverse.mp hv)
end
section
/-! SOUNDNESS 6: a whole run -/
def PcG (G : SG) (as : List Value) (h : HP) : Array Value → State → Prop := fun v U => v = (as.map (vv G)).toArray ∧ HR G h U.heap ∧ ST G U ∧ g_sz G ≤ U.heap.size
def QcG (G : SG) (r : Option Value) (h : HP) : Array Value → State → Outcome → State → Prop := fun _ st o t => o = .returned (r.map (vv G)) ∧ HR G h t.heap ∧ va_F (AX G) st t
theorem ST.warm {G : SG} {s U : State} (hW : s.WarmedH U.vm) (hz : g_sz G ≤ s.heap.size) (hk : ∀ q : Nat, q < s.heap.size → ¬ AX G q → U.heap[q]? = s.heap[q]?) (h : ST G s) : ST G U := by
  obtain ⟨h1, h2, h3, h4, h5⟩ := h
  exact ⟨va_K.moved hW.alike h1, h2.warm hW, fun e he => (h3 e he).moved hW.alike, fun e e1 e2 => ((h4 e e1 e2).moved hW.alike).kept hk, fun e he => ((h5 e he).moved hW.alike).kept hk⟩
theorem ST.calling {G : SG} {U : State} {g : JFrame} {mk : MethodId} {a : Array Value} (h : ST G U) : ST G (U.calling g mk a) := by
  obtain ⟨h1, h2, h3, h4, h5⟩ := h
  have hal : U.vm.Alike (U.calling g mk a).vm := Vm.Alike.refl U.vm
  exact ⟨va_K.moved hal h1, NW.same (s := U) (U := U.calling g mk a) rfl h2, fun e he => (h3 e he).moved hal, fun e e1 e2 => (h4 e e1 e2).moved hal, fun e he => (h5 e he).moved hal⟩
theorem PcG.blind (G : SG) (as : List Value) (h : HP) : FrameBlind (PcG G as h) := fun _ _ _ _ q => ⟨q.1, q.2.1, q.2.2.1.calling, q.2.2.2⟩
theorem lay_one {as : List Value} (h : ∀ v ∈ as, v.category = 1) : lay as = as := by
  induction as with
  | nil => rfl
  | cons v as ih =>
    have h1 := h v List.mem_cons_self
    have h2 := ih fun w hw => h w (List.mem_cons_of_mem _ hw)
    cases v <;> first | (cases h1; done) | (show _ :: lay as = _; rw [h2])
theorem args_one (G : SG) {as : List Value} (h : ∀ v ∈ as, v.category = 1) : ∀ (i k : Nat), k < as.length → (i + k, vv G (lget as k)) ∈ lv_args i (as.map (vv G)) := by
  induction as with
  | nil => intro i k hk; cases hk
  | cons v as ih =>
    intro i k hk
    have h1 : ¬ (vv G v).category = 2 := by rw [vv_cat, h v List.mem_cons_self]; decide
    show _ ∈ (i, vv G v) :: lv_args (if (vv G v).category = 2 then i + 2 else i + 1) (as.map (vv G))
    rw [if_neg h1]
    cases k with
    | zero => exact List.mem_cons_self
    | succ k =>
      refine List.mem_cons_of_mem _ ?_
      have := ih (fun w hw => h w (List.mem_cons_of_mem _ hw)) (i + 1) k (by simpa using hk)
      rw [show i + (k + 1) = i + 1 + k by omega]
      exact this
theorem sl_one (G : SG) {as : List Value} (h : ∀ v ∈ as, v.category = 1) : (lg_sl (as.map (vv G))).length = as.length := by
  induction as with
  | nil => rfl
  | cons v as ih =>
    have h1 : ¬ (vv G v).category = 2 := by rw [vv_cat, h v List.mem_cons_self]; decide
    have h2 := ih fun w hw => h w (List.mem_cons_of_mem _ hw)
    simp only [lg_sl, List.map_cons, List.flatMap_cons, if_neg h1] at h2 ⊢
    simp [h2]
/-- the locals at a method's beginning -/
theorem LH_entry (G : SG) {m : Nat} {as : List Value} {k : Nat → Nat} (hk : okm m = true) (hlen : as.length = mnp m) (hc : mlong m = true ∨ ∀ v ∈ as, v.category = 1) (hr : rcv m as k = true) : (lg_sl (as.map (vv G))).length ≤ mxl m ∧ LH G m (locs0 m as) ((lg_sl (as.map (vv G)) ++ List.replicate (mxl m - (lg_sl (as.map (vv G))).length) Slot.unset).toArray) := by
  simp only [okm, Bool.and_eq_true] at hk
  have hl := hk.2
  have one : (∀ v ∈ as, v.category = 1) → mnp m ≤ mxl m → (lg_sl (as.map (vv G))).length ≤ mxl m ∧ LH G m (locs0 m as) ((lg_sl (as.map (vv G)) ++ List.replicate (mxl m - (lg_sl (as.map (vv G))).length) Slot.unset).toArray) := by
    intro h1 h2
    have h3 : (lg_sl (as.map (vv G))).length ≤ mxl m := by rw [sl_one G h1, hlen]; exact h2
    have h4 := lv_entry (as.map (vv G)) h3
    have e0 : locs0 m as = as ++ List.replicate (mxl m - as.length) (.retAddr 0) := by unfold locs0; rw [lay_one h1]
    have e1 : ∀ j, lget (locs0 m as) j = if j < as.length then lget as j else .retAddr 0 := by
      intro j
      rw [e0]
      unfold lget
      rw [List.getD_eq_getElem?_getD, List.getD_eq_getElem?_getD]
      split
      · rename_i hj
        rw [List.getElem?_append_left hj]
      · rename_i hj
        rw [List.getElem?_append_right (by omega), List.getElem?_replicate]
        split <;> rfl
    refine ⟨h3, h4.1, h4.2.1, by rw [e0, List.length_append, List.length_replicate]; omega, fun j hj => ?_, fun _ j => ?_⟩
    · rw [e1 j] at hj ⊢
      split at hj
      · rename_i hlt
        rw [if_pos hlt]
        have := h4.2.2 _ (args_one G h1 0 j hlt)
        simpa using this
      · cases hj
    · rw [e1 j]
      split
      · rename_i hlt
        have hm : lget as j ∈ as := by
          unfold lget
          rw [List.getD_eq_getElem?_getD, List.getElem?_eq_getElem hlt]
          exact List.getElem_mem hlt
        have := h1 _ hm
        cases hv : lget as j <;> first | rfl | (rw [hv] at this; cases this)
      · rfl
  cases hm : mlong m with
  | false =>
    rw [hm] at hl
    rcases hc with q | q
    · rw [hm] at q; cases q
    · exact one q (of_decide_eq_true hl)
  | true =>
    rw [hm] at hl
    simp only [Bool.and_eq_true, beq_iff_eq] at hl
    obtain ⟨⟨l1, l2⟩, l3⟩ := hl
    rw [l1] at hlen
    match as, hlen, hr with
    | [v, w], _, hr =>
      have hv : ∃ a, v = .ref a := by
        unfold rcv at hr
        rw [l3] at hr
        cases v <;> first | exact ⟨_, rfl⟩ | cases hr
      obtain ⟨a, rfl⟩ := hv
      by_cases hw : w.category = 1
      · exact (by
          have h1 : ∀ u ∈ [Value.ref a, w], u.category = 1 := by
            intro u hu
            rcases List.mem_cons.mp hu with rfl | hu
            · rfl
            · rw [List.mem_singleton.mp hu]; exact hw
          have h3 : (lg_sl ([Value.ref a, w].map (vv G))).length ≤ mxl m := by rw [sl_one G h1, l2]; exact Nat.le_of_ble_eq_true rfl
          have h4 := lv_entry ([Value.ref a, w].map (vv G)) h3
          have e0 : locs0 m [Value.ref a, w] = [Value.ref a, w, .retAddr 0] := by unfold locs0; rw [lay_one h1, l2]; rfl
          refine ⟨h3, h4.1, h4.2.1, by rw [e0, l2]; rfl, fun j hj => ?_, fun hf => absurd (hm.symm.trans hf) (by decide)⟩
          rw [e0] at hj ⊢
          match j with
          | 0 => exact h4.2.2 _ (args_one G h1 0 0 (Nat.le_of_ble_eq_true rfl))
          | 1 => exact h4.2.2 _ (args_one G h1 0 1 (Nat.le_of_ble_eq_true rfl))
          | 2 => cases hj
          | n + 3 => cases hj)
      · have hw2 : (∃ x, w = .long x) ∨ ∃ x, w = .double x := by
          cases w <;> first | exact Or.inl ⟨_, rfl⟩ | exact Or.inr ⟨_, rfl⟩ | exact absurd rfl hw
        have hA : (lg_sl ([Value.ref a, w].map (vv G))).length = 3 := by
          rcases hw2 with ⟨x, rfl⟩ | ⟨x, rfl⟩
          · show (lg_sl [va_rf (rfo G a), .long x]).length = 3
            cases rfo G a <;> rfl
          · show (lg_sl [va_rf (rfo G a), .double x]).length = 3
            cases rfo G a <;> rfl
        have h3 : (lg_sl ([Value.ref a, w].map (vv G))).length ≤ mxl m := by rw [hA, l2]; exact Nat.le_refl _
        have h4 := lv_entry ([Value.ref a, w].map (vv G)) h3
        have hargs : ∀ q ∈ lv_args 0 ([Value.ref a, w].map (vv G)), q ∈ lv_args 0 ([Value.ref a, w].map (vv G)) := fun _ q => q
        have h5 : lv_args 0 ([Value.ref a, w].map (vv G)) = [(0, vv G (.ref a)), (1, vv G w)] := by
          have c1 : ¬ (vv G (.ref a)).category = 2 := by rw [vv_cat]; show ¬ (1 : Nat) = 2; decide
          simp [lv_args, c1]
        rw [h5] at h4
        rcases hw2 with ⟨x, rfl⟩ | ⟨x, rfl⟩
        · refine ⟨h3, h4.1, h4.2.1, by show _ = _; rw [l2]; unfold locs0; rw [l2]; rfl, fun j hj => ?_, fun hf => absurd (hm.symm.trans hf) (by decide)⟩
          have e0 : locs0 m [Value.ref a, .long x] = [Value.ref a, .long x, .retAddr 0] := by unfold locs0; rw [l2]; rfl
          rw [e0] at hj ⊢
          match j with
          | 0 => exact h4.2.2 (0, vv G (.ref a)) (by simp)
          | 1 => exact h4.2.2 (1, vv G (.long x)) (by simp)
          | 2 => cases hj
          | n + 3 => cases hj
        · refine ⟨h3, h4.1, h4.2.1, by show _ = _; rw [l2]; unfold locs0; rw [l2]; rfl, fun j hj => ?_, fun hf => absurd (hm.symm.trans hf) (by decide)⟩
          have e0 : locs0 m [Value.ref a, .double x] = [Value.ref a, .double x, .retAddr 0] := by unfold locs0; rw [l2]; rfl
          rw [e0] at hj ⊢
          match j with
          | 0 => exact h4.2.2 (0, vv G (.ref a)) (by simp)
          | 1 => cases hj
          | 2 => cases hj
          | n + 3 => cases hj
section Snd
variable {G : SG} {p : Program} {l : Launch} {e : Env} {R : Room} {s : State} {m : MethodId} {args : Array Value} {below : List Frame} {meth : Method} {c : Code} {H : Heap} {locs : List Loc} {cells slots : Nat} {Q : State → Prop} {mm pc : Nat} {h : HP} {ls : Array Slot} {rest : List Value} {cc : ByteArray}
theorem run_go {mc ms : Nat} {r : Option Value} {h1 : HP} {a : Array Value} {st0 : List Value} (hr : va_Run p l e R s m args below meth c H locs cells slots mc ms (F0 m pc ls st0) rest (QcG G r h1 a) (AX G)) (hS : va_S (AX G) s.heap H locs)
    (kk : ∀ H1 locs1, HR G h1 H1 → va_S (AX G) s.heap H1 locs1 → W p l e R s m args below meth c H1 locs1 (cells + mc) (slots + ms) Q (F0 m (pc + 3) ls ((r.map (vv G)).toList ++ rest))) : W p l e R s m args below meth c H locs cells slots Q (F0 m pc ls st0) := by
  intro T hT X
  obtain ⟨v, st₀, t, T', L, h0, X', hL, e1, e2, ⟨hv, hR1, hz, hk⟩, st⟩ := hr T hT X
  cases hv
  rw [h0] at hz hk
  obtain ⟨t2, a1, b1⟩ := kk T'.heap (locs ++ L) (by rw [e1]; exact hR1)
    ⟨Nat.le_trans hS.1 (by rw [e1]; exact hz), fun q g1 g2 => by rw [e1, hk q (Nat.lt_of_lt_of_le g1 hS.1) g2]; exact hS.2.1 q g1 g2, fun q hq => by
      rcases List.mem_append.mp hq with z | z
      · exact hS.2.2 q z
      · exact hL q z⟩ T' rfl X'
  exact ⟨t2, st t2 a1, b1⟩
end Snd
end
section
/-! SOUNDNESS 7: the theorem -/
/-- what okm says, piece by piece -/
theorem okm_1 {t : Nat} (h : okm t = true) : mcl t < 13 ∧ (match mkd t == 1 with
    | true => Cond.static (my t)
    | false => Cond.instanceMethod (my t)) ∈ lw_tbl ∧ (mkd t = 0 → Cond.selects (cname (mcl t)) (my t) (my t) ∈ lw_tbl) ∧ (my t).cls = cname (mcl t) ∧ ((my t).cls ≠ "java/lang/invoke/MethodHandle" ∧ (my t).cls ≠ "java/lang/invoke/VarHandle") ∧ plainName (my t).cls = true := by
  simp only [okm, Bool.and_eq_true, decide_eq_true_eq] at h
  obtain ⟨⟨⟨⟨⟨⟨⟨⟨⟨⟨⟨⟨a1, a2⟩, a3⟩, a4⟩, a5⟩, a6⟩, a7⟩, a8⟩, a9⟩, a10⟩, a11⟩, a12⟩, a13⟩ := h
  refine ⟨a1, at_mem a2, fun h0 => ?_, a4, ⟨a5, a6⟩, a7⟩
  simp only [h0, beq_self_eq_true, Bool.not_true, Bool.false_or] at a3
  exact at_mem a3
theorem okm_2 {t : Nat} (h : okm t = true) : (parseMethodDescriptor (my t).desc).map (fun d => d.parameters.length + (match mkd t == 1 with
    | true => 0
    | false => 1)) = some (mnp t) ∧ (mkd t = 2 → (my t).name = "<init>" ∧ mret t = none) ∧ mkd t ≤ 2 ∧ 1 ≤ mrf t ∧ 40 ≤ mrl t := by
  simp only [okm, Bool.and_eq_true, decide_eq_true_eq] at h
  obtain ⟨⟨⟨⟨⟨⟨⟨⟨⟨⟨⟨⟨a1, a2⟩, a3⟩, a4⟩, a5⟩, a6⟩, a7⟩, a8⟩, a9⟩, a10⟩, a11⟩, a12⟩, a13⟩ := h
  refine ⟨a8, fun h0 => ?_, a10, a11, a12⟩
  simp only [h0, beq_self_eq_true, Bool.not_true, Bool.false_or, Bool.and_eq_true, decide_eq_true_eq] at a9
  exact a9
theorem map_toList (G : SG) (r : Option Value) (S : List Value) : (r.map (vv G)).toList ++ S.map (vv G) = (r.toList ++ S).map (vv G) := by cases r <;> rfl
theorem rets_some {m : Nat} {i : Instr} {len : Nat} {S : List Value} {r : Option Value} (h : rets m i len S = some r) : len = 1 ∧ ((i = .return_ ∧ S = [] ∧ r = none ∧ mret m = none) ∨ (∃ x, i = .ireturn ∧ S = [.int x] ∧ r = some (.int x) ∧ (mret m = some .int ∨ (mret m = some .boolean ∧ (x = 0 ∨ x = 1)))) ∨ ∃ a, i = .areturn ∧ S = [.ref a] ∧ r = some (.ref a) ∧ mrra m = true) := by
  unfold rets at h
  split at h
  · obtain ⟨q, h⟩ := gd_some h
    simp only [Bool.and_eq_true, beq_iff_eq] at q
    cases h
    exact ⟨q.1, Or.inl ⟨rfl, rfl, rfl, q.2⟩⟩
  · obtain ⟨q, h⟩ := gd_some h
    simp only [Bool.and_eq_true, Bool.or_eq_true, beq_iff_eq] at q
    cases h
    exact ⟨q.1, Or.inr (Or.inl ⟨_, rfl, rfl, rfl, q.2⟩)⟩
  · obtain ⟨q, h⟩ := gd_some h
    simp only [Bool.and_eq_true, beq_iff_eq] at q
    cases h
    exact ⟨q.1, Or.inr (Or.inr ⟨_, rfl, rfl, rfl, q.2⟩)⟩
  · cases h
def SndW (G : SG) (k : Nat) : Prop := ∀ (mm pc : Nat) (L S : List Value) (h : HP) (r : Option Value) (h' : HP), prun k mm pc L S h = some (r, h') → ∀ {p : Program} {l : Launch} {e : Env} {R : Room} {s : State} {m : MethodId} {args : Array Value} {below : List Frame} {meth : Method} {c : Code} {H : Heap} {locs : List Loc} {cells slots : Nat} {Q : State → Prop} {ls : Array Slot},
  CX G p R s m args meth c mm → mrf mm ≤ R.frames → mrl mm ≤ R.locals → HR G h H → va_S (AX G) s.heap H locs → LH G mm L ls → cells + (hp_n h' - hp_n h) ≤ R.cells → slots + (hp_s h' - hp_s h) ≤ R.slots →
  (∀ (pc1 : Nat) (i : Instr) (S1 : List Value) (ls1 : Array Slot) (H1 : Heap) (locs1 : List Loc), decode (mb mm) pc1 = .ok (i, 1) → rets mm i 1 S1 = some r → HR G h' H1 → va_S (AX G) s.heap H1 locs1 → W p l e R s m args below meth c H1 locs1 (cells + (hp_n h' - hp_n h)) (slots + (hp_s h' - hp_s h)) Q (F0 m pc1 ls1 (S1.map (vv G)))) →
  W p l e R s m args below meth c H locs cells slots Q (F0 m pc ls (S.map (vv G)))
set_option maxHeartbeats 4000000 in
/-- a method's contract out of its pure run -/
theorem snd_met (G : SG) {k : Nat} (ih : SndW G k) (l : Launch) {m' : Nat} {as : List Value} {h h1 : HP} {r : Option Value} (hok : okm m' = true) (hlen : as.length = mnp m') (hc : mlong m' = true ∨ ∀ v ∈ as, v.category = 1) (hr : rcv m' as (hp_k h) = true) (e : prun k m' 0 (locs0 m' as) [] h = some (r, h1)) :
    Met l (my m') (WS m') { frames := mrf m', cells := hp_n h1 - hp_n h, slots := hp_s h1 - hp_s h, locals := mrl m' } (PcG G as h) (QcG G r h1) (hp_n h1 - hp_n h) (hp_s h1 - hp_s h) (AX G) := by
  obtain ⟨o1, o2, o3, o4, o5, o6⟩ := okm_1 hok
  obtain ⟨o7, o8, o9, o10, o11⟩ := okm_2 hok
  refine Met.ofW (cc := mb m') (maxL := mxl m') (ret := mret m') o6 rfl ?_
  intro p e0 s m args below meth c s₁ B hml hv
  obtain ⟨rfl, hR, hST, hsz⟩ := hv
  have hx := B.exec
  have hb := B.bytes
  have hrt := B.returns
  have hts := atoms_spec (ws := WS m') B.pre
  have hown : s.vm.findClass (my m').cls = some m.cls := findClass_of_methodNamed B.named
  have hlocks := B.notSynchronized
  have hname : meth.name = (my m').name := (name_of_methodNamed B.named B.method).1
  rw [o4] at hown
  obtain ⟨hlh1, hLH⟩ := LH_entry G hok hlen hc hr
  rw [lg_entry_eq]
  refine ih m' 0 (locs0 m' as) [] h r h1 e ⟨hx, hb, hml, hown, fun w hw => hts w (List.mem_cons_of_mem _ hw), fun hm => ?_, o1, o10, Nat.le_trans (by decide) o11, hsz, hST⟩ (Nat.le_refl _) (Nat.le_refl _) hR va_S.rf hLH (by show 0 + _ ≤ hp_n h1 - hp_n h; omega) (by show 0 + _ ≤ hp_s h1 - hp_s h; omega) ?_
  · rw [hname]
    exact (o8 (by simpa [mini] using hm)).1
  · intro pc1 i S1 ls1 H1 locs1 hd hrs hR1 hS1
    refine W.cs (Nat.zero_add _) (Nat.zero_add _) ?_
    have hq : ∀ t : State, t.heap = H1 → s.WarmedH t.vm → QcG G r h1 (as.map (vv G)).toArray s (.returned (r.map (vv G))) t := fun t ht _ => ⟨rfl, by rw [ht]; exact hR1, hS1.F ht⟩
    obtain ⟨-, ⟨rfl, rfl, rfl, q⟩ | ⟨x, rfl, rfl, rfl, q⟩ | ⟨a, rfl, rfl, rfl, q⟩⟩ := rets_some hrs
    · exact W.vret hx hb (hrt.trans q) hq hS1.2.2 hd
    · rcases q with q | ⟨q, q2⟩
      · exact W.iret hx hb (hrt.trans q) hq hS1.2.2 hd
      · exact W.zret (ty := .boolean) hx hb (hrt.trans q) (by rcases q2 with rfl | rfl <;> rfl) hq hS1.2.2 hd
    · have q3 : ∃ rt, mret m' = some rt ∧ ((∃ n, rt = .object n) ∨ ∃ t, rt = .array t) := by
        unfold mrra at q
        split at q
        · rename_i n hn
          exact ⟨_, hn, Or.inl ⟨_, rfl⟩⟩
        · rename_i n hn
          exact ⟨_, hn, Or.inr ⟨_, rfl⟩⟩
        · cases q
      obtain ⟨rt, q4, q5⟩ := q3
      exact W.aret hx hb (hrt.trans q4) q5 (v := va_rf (rfo G a)) (by cases rfo G a <;> simp [va_rf]) hq hS1.2.2 hd
set_option maxHeartbeats 4000000 in
theorem snd_all (G : SG) : ∀ k, SndW G k := by
  intro k
  induction k with
  | zero => intro mm pc L S h r h' e; cases e
  | succ k ih =>
    intro mm pc L S h r h' hrun p l e R s m args below meth c H locs cells slots Q ls C hF hLo hR hS hl hcells hslots KR
    have hmono := prun_mono _ _ _ _ _ _ _ _ hrun
    rw [prun] at hrun
    cases hd : decode (mb mm) pc with
    | error x => rw [hd] at hrun; cases hrun
    | ok q =>
      obtain ⟨i, len⟩ := q
      rw [hd] at hrun
      simp only at hrun
      cases hr : rets mm i len S with
      | some r0 =>
        rw [hr] at hrun
        cases hrun
        obtain ⟨rfl, -⟩ := rets_some hr
        have := KR pc i S ls H locs hd hr hR hS
        simpa only [Nat.sub_self, Nat.add_zero] using this
      | none =>
        rw [hr] at hrun
        simp only at hrun
        cases hc : call mm i len S h with
        | none =>
          rw [hc] at hrun
          simp only at hrun
          cases hs : stp mm pc i len L S h with
          | none => rw [hs] at hrun; cases hrun
          | some q1 =>
            obtain ⟨pc', L', S', h1⟩ := q1
            rw [hs] at hrun
            simp only at hrun
            have m1 := stp_mono mm pc i len L S h _ _ _ _ hs
            have m2 := prun_mono _ _ _ _ _ _ _ _ hrun
            have go : ∀ (H' : Heap) (locs' : List Loc) (ls' : Array Slot), HR G h1 H' → va_S (AX G) s.heap H' locs' → LH G mm L' ls' → W p l e R s m args below meth c H' locs' (cells + (hp_n h1 - hp_n h)) (slots + (hp_s h1 - hp_s h)) Q (F0 m pc' ls' (S'.map (vv G))) := by
              intro H' locs' ls' a1 a2 a3
              refine ih mm pc' L' S' h1 r h' hrun C hF hLo a1 a2 a3 (by omega) (by omega) (fun pc1 i1 S1 ls1 H1 locs1 b1 b2 b3 b4 => ?_)
              exact W.cs (by omega) (by omega) (KR pc1 i1 S1 ls1 H1 locs1 b1 b2 b3 b4)
            cases hh : heapI i with
            | false =>
              refine snd_same C hd hs hl hh (fun he ls' hl' => ?_)
              subst he
              have := go H locs ls' hR hS hl'
              simpa only [Nat.sub_self, Nat.add_zero] using this
            | true =>
              refine snd_heap C hd hs hR hS hl hh (by omega) (by omega) (fun hL H' locs' a1 a2 => ?_)
              subst hL
              exact go H' locs' ls a1 a2 hl
        | some q1 =>
          obtain ⟨m', as, S'⟩ := q1
          rw [hc] at hrun
          simp only at hrun
          cases h1 : prun k m' 0 (locs0 m' as) [] h with
          | none => rw [h1] at hrun; cases hrun
          | some q2 =>
            obtain ⟨r1, h2⟩ := q2
            rw [h1] at hrun
            simp only at hrun
            obtain ⟨idx, nest, rfl, hf, hk, hlt, c1, c2, c3, c4, c5, c6, rfl, c7⟩ := call_some hc
            have m1 := prun_mono _ _ _ _ _ _ _ _ h1
            have m2 := prun_mono _ _ _ _ _ _ _ _ hrun
            obtain ⟨hx, hb, hml, hown, hts, hin, hcl, hfr, hlo, hsz, hST⟩ := id C
            obtain ⟨w1, w2⟩ := lkM_ok hcl hf
            have w3 : okm m' = true := (w2 hlt).1
            have w4 : Cond.code (my m') (mb m') (mxl m') (mret m') ∈ lw_tbl := (w2 hlt).2
            have hyo : yOf m' = my m' := by
              unfold yOf
              split <;> first | rfl | (exact absurd hlt (by decide))
            have hM := snd_met G ih l w3 c7 c5 c6 h1
            obtain ⟨o1, o2, o3, o4, o5, o6⟩ := okm_1 w3
            obtain ⟨o7, o8, o9, o10, o11⟩ := okm_2 w3
            have hpay : ∀ w ∈ WS m', ∀ (a' : Array Value) (U : State), s.WarmedH U.vm → w.before a' U = true := by
              refine pay_in (big := GW) hts (fun w hw => ?_)
              rcases List.mem_cons.mp hw with rfl | hw
              · exact ⟨gw w4 rfl, Or.inl rfl⟩
              · exact ⟨hw, good_of_word (List.mem_filter.mp hw).2⟩
            have hini : (Cond.initialized (my m').cls).before args s = true := by rw [o4]; exact hts _ (w_init o1)
            have hcode : (Cond.code (my m') (mb m') (mxl m') (mret m')).before args s = true := hts _ (gw w4 rfl)
            have hcs : (List.map (fun v => v.category) (List.map (vv G) S')).sum ≤ 8 := by
              rw [List.map_map]
              have : (fun v : Value => v.category) ∘ vv G = Value.category := funext fun v => vv_cat G v
              rw [this]
              exact c4
            have hpre : ∀ U : State, U.heap = H → s.WarmedH U.vm → PcG G as h (as.map (vv G)).toArray U := by
              intro U hU hW
              refine ⟨rfl, by rw [hU]; exact hR, hST.warm hW hsz (fun q g1 g2 => by rw [hU]; exact hS.2.1 q g1 g2), ?_⟩
              rw [hU]
              exact Nat.le_trans hsz hS.1
            have fin : ∀ (a : Array Value), va_Run p l e R s m args below meth c H locs cells slots (hp_n h2 - hp_n h) (hp_s h2 - hp_s h) (F0 m pc ls (List.map (vv G) (as.reverse ++ S'))) (List.map (vv G) S') (QcG G r1 h2 a) (AX G) → W p l e R s m args below meth c H locs cells slots Q (F0 m pc ls (List.map (vv G) (as.reverse ++ S'))) := by
              intro a hR2
              refine run_go hR2 hS (fun H1 locs1 a1 a2 => ?_)
              rw [map_toList]
              refine ih mm (pc + 3) L (r1.toList ++ S') h2 r h' hrun C hF hLo a1 a2 hl (by omega) (by omega) (fun pc1 i1 S1 ls1 H1 locs1 b1 b2 b3 b4 => ?_)
              exact W.cs (by omega) (by omega) (KR pc1 i1 S1 ls1 H1 locs1 b1 b2 b3 b4)
            have hB : (hp_n h2 - hp_n h : Nat) = hp_n h2 - hp_n h ∧ (hp_s h2 - hp_s h : Nat) = hp_s h2 - hp_s h ∧ mrf m' + 1 ≤ R.frames ∧ 8 + (mxl m' + 11) + mrl m' ≤ R.locals := ⟨rfl, rfl, by omega, by omega⟩
            have hW8 : 2 * (F0 m pc ls (List.map (vv G) (as.reverse ++ S'))).monitorRoom + ((List.map (vv G) S').map fun v => v.category).sum ≤ 8 := lv_room hcs
            have hroom : cells + (hp_n h2 - hp_n h) ≤ R.cells ∧ slots + (hp_s h2 - hp_s h) ≤ R.slots := ⟨by omega, by omega⟩
            have hdesc : ∀ n, (mkd m' = 1 → n = mnp m') → (¬ mkd m' = 1 → n + 1 = mnp m') → ∀ sig, parseMethodDescriptor (my m').desc = some sig → n = sig.parameters.length := by
              intro n n1 n2 sig hsig
              rw [hsig] at o7
              have o7 := Option.some.inj o7
              by_cases hk1 : mkd m' = 1
              · simp only [hk1, beq_self_eq_true] at o7
                have := n1 hk1
                omega
              · have hk2 : (mkd m' == 1) = false := by simpa using hk1
                simp only [hk2] at o7
                have := n2 hk1
                omega
            have hrecv : ¬ mkd m' = 1 → ∃ (a : Nat) (as' : List Value), as = .ref a :: as' ∧ hp_k h a = mcl m' + 1 := by
              intro hk1
              have hk2 : (mkd m' == 1) = false := by simpa using hk1
              unfold rcv at c6
              rw [hk2] at c6
              simp only at c6
              split at c6
              · exact ⟨_, _, rfl, by simpa using c6⟩
              · cases c6
            have hk3 : mkd m' = 0 ∨ mkd m' = 1 ∨ mkd m' = 2 := by omega
            rcases hk3 with hk3 | hk3 | hk3
            · -- an instance method
              obtain ⟨a, as', rfl, ha⟩ := hrecv (by omega)
              have hi : i = .invokevirtual idx := by
                rw [hk3] at hk
                unfold kcl at hk
                split at hk <;> first | (cases hk; done) | (simp only [Option.some.injEq, Prod.mk.injEq] at hk; first | (exfalso; omega) | (rw [hk.2]))
              subst hi
              have ha0 : ¬ a = 0 := fun z => Nat.succ_ne_zero (mcl m') (by show mcl m' + 1 = 0; rw [← ha, z]; exact hR.1.2.2.2.1)
              have hci : mcl m' < 12 := by
                have h3 := hR.1.tag ha (by omega) (by omega)
                have := hR.1.2.1 a h3.1 h3.2
                rw [ha] at this
                simp only [okt, Bool.or_eq_true, Bool.and_eq_true, decide_eq_true_eq, beq_iff_eq] at this
                rcases this with (q | q) | q
                · omega
                · omega
                · omega
              have hinst : (Cond.instanceMethod (my m')).before args s = true := by
                have hk2 : (mkd m' == 1) = false := by rw [hk3]; rfl
                simp only [hk2] at o2
                exact hts _ (gw o2 rfl)
              have hsel : (Cond.selects (cname (mcl m')) (my m') (my m')).before args s = true := hts _ (gw (o3 hk3) rfl)
              have hst : (F0 m pc ls (List.map (vv G) ((Value.ref a :: as').reverse ++ S'))).stack = (as'.map (vv G)).reverse ++ .ref (adr G a) :: List.map (vv G) S' := by
                show List.map (vv G) ((Value.ref a :: as').reverse ++ S') = _
                rw [List.reverse_cons, List.append_assoc, List.map_append, ← List.map_reverse]
                show _ ++ (vv G (.ref a) :: List.map (vv G) S') = _
                rw [vv_ref G ha0]
              have hav : (List.map (vv G) (Value.ref a :: as')).toArray = (Value.ref (adr G a) :: as'.map (vv G)).toArray := by
                show (vv G (.ref a) :: List.map (vv G) as').toArray = _
                rw [vv_ref G ha0]
              rw [hav] at hpre
              have hrv : ∃ cellB : Cell, H[adr G a]? = some cellB ∧ cellB.vm.isStatics = false ∧ s.vm.findClass (cname (mcl m')) = some cellB.cls := va_recv hST.1 hR.2.1 (cls_at hci) (obj_at hR.1 ha hci)
              have hn : (as'.map (vv G)).length = mnp m' - 1 := by rw [List.length_map]; simp only [List.length_cons] at c7; omega
              have hd2 := hdesc (mnp m' - 1) (fun z => by omega) (fun _ => by simp only [List.length_cons] at c7; omega)
              cases nest with
              | false =>
                have hlink : (Cond.methodLink (cname (mcl mm)) idx (my m')).before args s = true := by
                  have : Cond.methodLink (cname (mcl mm)) idx (yOf m') ∈ lw_tbl := w1
                  rw [hyo] at this
                  exact hts _ (gw this rfl)
                exact fin _ (va_runV (Ts := GW) (own := cname (mcl mm)) (C := cname (mcl m')) ⟨hx, hb, hml, hown, hts⟩ hM ⟨⟨rfl, rfl, hB.2.2.1, hB.2.2.2, hpay, List.mem_cons_self, hcode, hini, o5, hd2, hlink⟩, hinst, hsel⟩ ⟨PcG.blind G _ h, hrv, hpre⟩ rfl hn hl.1 hst hW8 hd hroom)
              | true =>
                have hlink : (Cond.methodLinkNest (cname (mcl mm)) idx (my m') "MarkedSteps").before args s = true := by
                  have : Cond.methodLinkNest (cname (mcl mm)) idx (yOf m') "MarkedSteps" ∈ lw_tbl := w1
                  rw [hyo] at this
                  exact va_Nw.use rfl (hST.2.1 _ this rfl)
                exact fin _ (va_runVN (Ts := GW) (own := cname (mcl mm)) (C := cname (mcl m')) ⟨hx, hb, hml, hown, hts⟩ hM ⟨⟨⟨rfl, rfl, hB.2.2.1, hB.2.2.2, hpay, List.mem_cons_self⟩, hcode, hini, o5, hd2, hlink⟩, hinst, hsel⟩ ⟨PcG.blind G _ h, hrv, hpre⟩ rfl hn hl.1 hst hW8 hd hroom)
            · -- a static method
              have hi : i = .invokestatic idx := by
                rw [hk3] at hk
                unfold kcl at hk
                split at hk <;> first | (cases hk; done) | (simp only [Option.some.injEq, Prod.mk.injEq] at hk; first | (exfalso; omega) | (rw [hk.2]))
              subst hi
              have hstat : (Cond.static (my m')).before args s = true := by
                have hk2 : (mkd m' == 1) = true := by rw [hk3]; rfl
                simp only [hk2] at o2
                exact hts _ (gw o2 rfl)
              have hst : (F0 m pc ls (List.map (vv G) (as.reverse ++ S'))).stack = (as.map (vv G)).reverse ++ List.map (vv G) S' := by
                show List.map (vv G) (as.reverse ++ S') = _
                rw [List.map_append, ← List.map_reverse]
              have hn : (as.map (vv G)).length = mnp m' := by rw [List.length_map]; exact c7
              have hd2 := hdesc (mnp m') (fun _ => rfl) (fun z => absurd hk3 z)
              cases nest with
              | false =>
                have hlink : (Cond.methodLink (cname (mcl mm)) idx (my m')).before args s = true := by
                  have : Cond.methodLink (cname (mcl mm)) idx (yOf m') ∈ lw_tbl := w1
                  rw [hyo] at this
                  exact hts _ (gw this rfl)
                exact fin _ (va_runS (Ts := GW) (own := cname (mcl mm)) ⟨hx, hb, hml, hown, hts⟩ hM ⟨⟨rfl, rfl, hB.2.2.1, hB.2.2.2, hpay, List.mem_cons_self, hcode, hini, o5, hd2, hlink⟩, hstat⟩ ⟨PcG.blind G _ h, hpre⟩ rfl hn hl.1 hst hW8 hd hroom)
              | true =>
                have hlink : (Cond.methodLinkNest (cname (mcl mm)) idx (my m') "MarkedSteps").before args s = true := by
                  have : Cond.methodLinkNest (cname (mcl mm)) idx (yOf m') "MarkedSteps" ∈ lw_tbl := w1
                  rw [hyo] at this
                  exact va_Nw.use rfl (hST.2.1 _ this rfl)
                exact fin _ (va_runSN (Ts := GW) (own := cname (mcl mm)) ⟨hx, hb, hml, hown, hts⟩ hM ⟨⟨⟨rfl, rfl, hB.2.2.1, hB.2.2.2, hpay, List.mem_cons_self⟩, hcode, hini, o5, hd2, hlink⟩, hstat, trivial⟩ ⟨PcG.blind G _ h, hpre⟩ rfl hn hl.1 hst hW8 hd hroom)
            · -- a constructor
              obtain ⟨a, as', rfl, ha⟩ := hrecv (by omega)
              have hi : i = .invokespecial idx := by
                rw [hk3] at hk
                unfold kcl at hk
                split at hk <;> first | (cases hk; done) | (simp only [Option.some.injEq, Prod.mk.injEq] at hk; first | (exfalso; omega) | (rw [hk.2]))
              subst hi
              obtain ⟨o12, o13⟩ := o8 hk3
              have ha0 : ¬ a = 0 := fun z => Nat.succ_ne_zero (mcl m') (by show mcl m' + 1 = 0; rw [← ha, z]; exact hR.1.2.2.2.1)
              have hinst : (Cond.instanceMethod (my m')).before args s = true := by
                have hk2 : (mkd m' == 1) = false := by rw [hk3]; rfl
                simp only [hk2] at o2
                exact hts _ (gw o2 rfl)
              have hst : (F0 m pc ls (List.map (vv G) ((Value.ref a :: as').reverse ++ S'))).stack = (as'.map (vv G)).reverse ++ .ref (adr G a) :: List.map (vv G) S' := by
                show List.map (vv G) ((Value.ref a :: as').reverse ++ S') = _
                rw [List.reverse_cons, List.append_assoc, List.map_append, ← List.map_reverse]
                show _ ++ (vv G (.ref a) :: List.map (vv G) S') = _
                rw [vv_ref G ha0]
              have hav : (List.map (vv G) (Value.ref a :: as')).toArray = (Value.ref (adr G a) :: as'.map (vv G)).toArray := by
                show (vv G (.ref a) :: List.map (vv G) as').toArray = _
                rw [vv_ref G ha0]
              rw [hav] at hpre
              have hn : (as'.map (vv G)).length = mnp m' - 1 := by rw [List.length_map]; simp only [List.length_cons] at c7; omega
              have hd2 := hdesc (mnp m' - 1) (fun z => by omega) (fun _ => by simp only [List.length_cons] at c7; omega)
              rw [o13] at hcode
              have hmem : Cond.code (my m') (mb m') (mxl m') none ∈ WS m' := by rw [← o13]; exact List.mem_cons_self
              cases nest with
              | false =>
                have hlink : (Cond.methodLink (cname (mcl mm)) idx (my m')).before args s = true := by
                  have : Cond.methodLink (cname (mcl mm)) idx (yOf m') ∈ lw_tbl := w1
                  rw [hyo] at this
                  exact hts _ (gw this rfl)
                exact fin _ (va_runI (Ts := GW) (own := cname (mcl mm)) ⟨hx, hb, hml, hown, hts⟩ hM ⟨⟨rfl, rfl, hB.2.2.1, hB.2.2.2, hpay, hmem, hcode, hini, o5, hd2, hlink⟩, o12, hinst⟩ ⟨PcG.blind G _ h, hpre⟩ rfl hn hl.1 hst hW8 hd hroom)
              | true =>
                have hlink : (Cond.methodLinkNest (cname (mcl mm)) idx (my m') "MarkedSteps").before args s = true := by
                  have : Cond.methodLinkNest (cname (mcl mm)) idx (yOf m') "MarkedSteps" ∈ lw_tbl := w1
                  rw [hyo] at this
                  exact va_Nw.use rfl (hST.2.1 _ this rfl)
                exact fin _ (va_runIN (Ts := GW) (own := cname (mcl mm)) ⟨hx, hb, hml, hown, hts⟩ hM ⟨⟨⟨rfl, rfl, hB.2.2.1, hB.2.2.2, hpay, hmem⟩, hcode, hini, o5, hd2, hlink⟩, o12, hinst⟩ ⟨PcG.blind G _ h, hpre⟩ rfl hn hl.1 hst hW8 hd hroom)
end
