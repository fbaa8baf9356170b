/-! began as PART A of the skeleton and the printed names -/
/-- a private method of a class that the tables say can be made, by its rows of tables_1 -/
def lw_okq (q : MethodName × Nat) : Prop := (q.1.cls ≠ "java/lang/invoke/MethodHandle" ∧ q.1.cls ≠ "java/lang/invoke/VarHandle") ∧ Cond.instantiable q.1.cls q.2 ∈ tables_1 ∧ Cond.privateMethod q.1 ∈ tables_1 ∧ Cond.instanceMethod q.1 ∈ tables_1
theorem lw_p0 : lw_okq (⟨"MarkedSteps$Machine", "isWalked", "()Z"⟩, 16) := ⟨⟨by decide +kernel, by decide +kernel⟩, List.mem_of_getElem? (i := 24) (by decide +kernel), List.mem_of_getElem? (i := 289) (by decide +kernel), List.mem_of_getElem? (i := 290) (by decide +kernel)⟩
theorem lw_p1 : lw_okq (⟨"MarkedSteps$Machine", "lacksMember", "(I)Z"⟩, 16) := ⟨⟨by decide +kernel, by decide +kernel⟩, List.mem_of_getElem? (i := 24) (by decide +kernel), List.mem_of_getElem? (i := 297) (by decide +kernel), List.mem_of_getElem? (i := 298) (by decide +kernel)⟩
theorem lw_p2 : lw_okq (⟨"MarkedSteps$Member", "addAct", "(IIII)I"⟩, 12) := ⟨⟨by decide +kernel, by decide +kernel⟩, List.mem_of_getElem? (i := 95) (by decide +kernel), List.mem_of_getElem? (i := 311) (by decide +kernel), List.mem_of_getElem? (i := 312) (by decide +kernel)⟩
theorem lw_p3 : lw_okq (⟨"MarkedSteps$Member", "addHandler", "(IIII)I"⟩, 12) := ⟨⟨by decide +kernel, by decide +kernel⟩, List.mem_of_getElem? (i := 95) (by decide +kernel), List.mem_of_getElem? (i := 319) (by decide +kernel), List.mem_of_getElem? (i := 320) (by decide +kernel)⟩
theorem lw_p4 : lw_okq (⟨"MarkedSteps$Verifier", "leastActThatLooksAtUnset", "(LMarkedSteps$Machine;LMarkedSteps$Member;)I"⟩, 2) := ⟨⟨by decide +kernel, by decide +kernel⟩, List.mem_of_getElem? (i := 257) (by decide +kernel), List.mem_of_getElem? (i := 335) (by decide +kernel), List.mem_of_getElem? (i := 336) (by decide +kernel)⟩
theorem lw_p5 : lw_okq (⟨"MarkedSteps$Verifier", "comeTo", "(LMarkedSteps$Member;II)V"⟩, 2) := ⟨⟨by decide +kernel, by decide +kernel⟩, List.mem_of_getElem? (i := 257) (by decide +kernel), List.mem_of_getElem? (i := 339) (by decide +kernel), List.mem_of_getElem? (i := 340) (by decide +kernel)⟩
theorem lw_p6 : lw_okq (⟨"MarkedSteps$Verifier", "passOver", "(LMarkedSteps$Member;)V"⟩, 2) := ⟨⟨by decide +kernel, by decide +kernel⟩, List.mem_of_getElem? (i := 257) (by decide +kernel), List.mem_of_getElem? (i := 343) (by decide +kernel), List.mem_of_getElem? (i := 344) (by decide +kernel)⟩
theorem lw_p7 : lw_okq (⟨"MarkedSteps$Verifier", "goOn", "(LMarkedSteps$Member;I)V"⟩, 2) := ⟨⟨by decide +kernel, by decide +kernel⟩, List.mem_of_getElem? (i := 257) (by decide +kernel), List.mem_of_getElem? (i := 347) (by decide +kernel), List.mem_of_getElem? (i := 348) (by decide +kernel)⟩
theorem lw_p8 : lw_okq (⟨"MarkedSteps$Verifier", "goToHandlers", "(LMarkedSteps$Member;I)V"⟩, 2) := ⟨⟨by decide +kernel, by decide +kernel⟩, List.mem_of_getElem? (i := 257) (by decide +kernel), List.mem_of_getElem? (i := 352) (by decide +kernel), List.mem_of_getElem? (i := 353) (by decide +kernel)⟩
theorem lw_p9 : lw_okq (⟨"MarkedSteps$Member", "handlerHas", "(II)Z"⟩, 12) := ⟨⟨by decide +kernel, by decide +kernel⟩, List.mem_of_getElem? (i := 95) (by decide +kernel), List.mem_of_getElem? (i := 356) (by decide +kernel), List.mem_of_getElem? (i := 357) (by decide +kernel)⟩
theorem lw_p10 : lw_okq (⟨"MarkedSteps$Slot", "becomeNothing", "()V"⟩, 4) := ⟨⟨by decide +kernel, by decide +kernel⟩, List.mem_of_getElem? (i := 68) (by decide +kernel), List.mem_of_getElem? (i := 384) (by decide +kernel), List.mem_of_getElem? (i := 385) (by decide +kernel)⟩
theorem lw_p11 : lw_okq (⟨"MarkedSteps$Slot", "becomeNumber", "(I)V"⟩, 4) := ⟨⟨by decide +kernel, by decide +kernel⟩, List.mem_of_getElem? (i := 68) (by decide +kernel), List.mem_of_getElem? (i := 388) (by decide +kernel), List.mem_of_getElem? (i := 389) (by decide +kernel)⟩
theorem lw_p12 : lw_okq (⟨"MarkedSteps$Slot", "copy", "(LMarkedSteps$Slot;)V"⟩, 4) := ⟨⟨by decide +kernel, by decide +kernel⟩, List.mem_of_getElem? (i := 68) (by decide +kernel), List.mem_of_getElem? (i := 393) (by decide +kernel), List.mem_of_getElem? (i := 394) (by decide +kernel)⟩
theorem lw_p13 : lw_okq (⟨"MarkedSteps", "refusalToBegin", "(II)I"⟩, 3) := ⟨⟨by decide +kernel, by decide +kernel⟩, List.mem_of_getElem? (i := 16) (by decide +kernel), List.mem_of_getElem? (i := 401) (by decide +kernel), List.mem_of_getElem? (i := 402) (by decide +kernel)⟩
theorem lw_p14 : lw_okq (⟨"MarkedSteps$Machine", "begin", "(II[LMarkedSteps$Slot;)I"⟩, 16) := ⟨⟨by decide +kernel, by decide +kernel⟩, List.mem_of_getElem? (i := 24) (by decide +kernel), List.mem_of_getElem? (i := 405) (by decide +kernel), List.mem_of_getElem? (i := 406) (by decide +kernel)⟩
theorem lw_p15 : lw_okq (⟨"MarkedSteps$Purse", "open", "(I)V"⟩, 4) := ⟨⟨by decide +kernel, by decide +kernel⟩, List.mem_of_getElem? (i := 32) (by decide +kernel), List.mem_of_getElem? (i := 409) (by decide +kernel), List.mem_of_getElem? (i := 410) (by decide +kernel)⟩
def lw_privs_1 : List (MethodName × Nat) := [(⟨"MarkedSteps$Machine", "isWalked", "()Z"⟩, 16), (⟨"MarkedSteps$Machine", "lacksMember", "(I)Z"⟩, 16), (⟨"MarkedSteps$Member", "addAct", "(IIII)I"⟩, 12), (⟨"MarkedSteps$Member", "addHandler", "(IIII)I"⟩, 12), (⟨"MarkedSteps$Verifier", "leastActThatLooksAtUnset", "(LMarkedSteps$Machine;LMarkedSteps$Member;)I"⟩, 2), (⟨"MarkedSteps$Verifier", "comeTo", "(LMarkedSteps$Member;II)V"⟩, 2), (⟨"MarkedSteps$Verifier", "passOver", "(LMarkedSteps$Member;)V"⟩, 2), (⟨"MarkedSteps$Verifier", "goOn", "(LMarkedSteps$Member;I)V"⟩, 2), (⟨"MarkedSteps$Verifier", "goToHandlers", "(LMarkedSteps$Member;I)V"⟩, 2), (⟨"MarkedSteps$Member", "handlerHas", "(II)Z"⟩, 12), (⟨"MarkedSteps$Slot", "becomeNothing", "()V"⟩, 4), (⟨"MarkedSteps$Slot", "becomeNumber", "(I)V"⟩, 4), (⟨"MarkedSteps$Slot", "copy", "(LMarkedSteps$Slot;)V"⟩, 4), (⟨"MarkedSteps", "refusalToBegin", "(II)I"⟩, 3), (⟨"MarkedSteps$Machine", "begin", "(II[LMarkedSteps$Slot;)I"⟩, 16), (⟨"MarkedSteps$Purse", "open", "(I)V"⟩, 4)]
theorem lw_r1 : ∀ q ∈ lw_privs_1, lw_okq q := List.forall_mem_cons.mpr ⟨lw_p0, List.forall_mem_cons.mpr ⟨lw_p1, List.forall_mem_cons.mpr ⟨lw_p2, List.forall_mem_cons.mpr ⟨lw_p3, List.forall_mem_cons.mpr ⟨lw_p4, List.forall_mem_cons.mpr ⟨lw_p5, List.forall_mem_cons.mpr ⟨lw_p6, List.forall_mem_cons.mpr ⟨lw_p7, List.forall_mem_cons.mpr ⟨lw_p8, List.forall_mem_cons.mpr ⟨lw_p9, List.forall_mem_cons.mpr ⟨lw_p10, List.forall_mem_cons.mpr ⟨lw_p11, List.forall_mem_cons.mpr ⟨lw_p12, List.forall_mem_cons.mpr ⟨lw_p13, List.forall_mem_cons.mpr ⟨lw_p14, List.forall_mem_cons.mpr ⟨lw_p15, fun _ h => absurd h List.not_mem_nil⟩⟩⟩⟩⟩⟩⟩⟩⟩⟩⟩⟩⟩⟩⟩⟩
theorem lw_p16 : lw_okq (⟨"MarkedSteps$Machine", "beginFrame", "(I[LMarkedSteps$Slot;I)Z"⟩, 16) := ⟨⟨by decide +kernel, by decide +kernel⟩, List.mem_of_getElem? (i := 24) (by decide +kernel), List.mem_of_getElem? (i := 417) (by decide +kernel), List.mem_of_getElem? (i := 418) (by decide +kernel)⟩
theorem lw_p17 : lw_okq (⟨"MarkedSteps$Purse", "paysFor", "(I)Z"⟩, 4) := ⟨⟨by decide +kernel, by decide +kernel⟩, List.mem_of_getElem? (i := 32) (by decide +kernel), List.mem_of_getElem? (i := 421) (by decide +kernel), List.mem_of_getElem? (i := 422) (by decide +kernel)⟩
theorem lw_p18 : lw_okq (⟨"MarkedSteps$Purse", "takes", "(J)Z"⟩, 4) := ⟨⟨by decide +kernel, by decide +kernel⟩, List.mem_of_getElem? (i := 32) (by decide +kernel), List.mem_of_getElem? (i := 425) (by decide +kernel), List.mem_of_getElem? (i := 426) (by decide +kernel)⟩
theorem lw_p19 : lw_okq (⟨"MarkedSteps$Frame", "begin", "(LMarkedSteps$Member;I[LMarkedSteps$Slot;I)V"⟩, 7) := ⟨⟨by decide +kernel, by decide +kernel⟩, List.mem_of_getElem? (i := 156) (by decide +kernel), List.mem_of_getElem? (i := 429) (by decide +kernel), List.mem_of_getElem? (i := 430) (by decide +kernel)⟩
theorem lw_p20 : lw_okq (⟨"MarkedSteps$Machine", "keepTrace", "(I)V"⟩, 16) := ⟨⟨by decide +kernel, by decide +kernel⟩, List.mem_of_getElem? (i := 24) (by decide +kernel), List.mem_of_getElem? (i := 438) (by decide +kernel), List.mem_of_getElem? (i := 439) (by decide +kernel)⟩
theorem lw_p21 : lw_okq (⟨"MarkedSteps$Machine", "endFramesBehindTheirActs", "()I"⟩, 16) := ⟨⟨by decide +kernel, by decide +kernel⟩, List.mem_of_getElem? (i := 24) (by decide +kernel), List.mem_of_getElem? (i := 442) (by decide +kernel), List.mem_of_getElem? (i := 443) (by decide +kernel)⟩
theorem lw_p22 : lw_okq (⟨"MarkedSteps$Machine", "top", "()LMarkedSteps$Frame;"⟩, 16) := ⟨⟨by decide +kernel, by decide +kernel⟩, List.mem_of_getElem? (i := 24) (by decide +kernel), List.mem_of_getElem? (i := 446) (by decide +kernel), List.mem_of_getElem? (i := 447) (by decide +kernel)⟩
theorem lw_p23 : lw_okq (⟨"MarkedSteps$Frame", "isBehindItsActs", "()Z"⟩, 7) := ⟨⟨by decide +kernel, by decide +kernel⟩, List.mem_of_getElem? (i := 156) (by decide +kernel), List.mem_of_getElem? (i := 450) (by decide +kernel), List.mem_of_getElem? (i := 451) (by decide +kernel)⟩
theorem lw_p24 : lw_okq (⟨"MarkedSteps$Machine", "endFrame", "()V"⟩, 16) := ⟨⟨by decide +kernel, by decide +kernel⟩, List.mem_of_getElem? (i := 24) (by decide +kernel), List.mem_of_getElem? (i := 454) (by decide +kernel), List.mem_of_getElem? (i := 455) (by decide +kernel)⟩
theorem lw_p25 : lw_okq (⟨"MarkedSteps$Monitors", "leaveAll", "(LMarkedSteps$Frame;)V"⟩, 1) := ⟨⟨by decide +kernel, by decide +kernel⟩, List.mem_of_getElem? (i := 56) (by decide +kernel), List.mem_of_getElem? (i := 458) (by decide +kernel), List.mem_of_getElem? (i := 459) (by decide +kernel)⟩
theorem lw_p26 : lw_okq (⟨"MarkedSteps$Frame", "takeGiven", "(LMarkedSteps$Slot;)V"⟩, 7) := ⟨⟨by decide +kernel, by decide +kernel⟩, List.mem_of_getElem? (i := 156) (by decide +kernel), List.mem_of_getElem? (i := 462) (by decide +kernel), List.mem_of_getElem? (i := 463) (by decide +kernel)⟩
theorem lw_p27 : lw_okq (⟨"MarkedSteps$Frame", "named", "(I)LMarkedSteps$Slot;"⟩, 7) := ⟨⟨by decide +kernel, by decide +kernel⟩, List.mem_of_getElem? (i := 156) (by decide +kernel), List.mem_of_getElem? (i := 467) (by decide +kernel), List.mem_of_getElem? (i := 468) (by decide +kernel)⟩
theorem lw_p28 : lw_okq (⟨"MarkedSteps$Machine", "stop", "()I"⟩, 16) := ⟨⟨by decide +kernel, by decide +kernel⟩, List.mem_of_getElem? (i := 24) (by decide +kernel), List.mem_of_getElem? (i := 472) (by decide +kernel), List.mem_of_getElem? (i := 473) (by decide +kernel)⟩
theorem lw_p29 : lw_okq (⟨"MarkedSteps$Machine", "doActs", "(I)I"⟩, 16) := ⟨⟨by decide +kernel, by decide +kernel⟩, List.mem_of_getElem? (i := 24) (by decide +kernel), List.mem_of_getElem? (i := 477) (by decide +kernel), List.mem_of_getElem? (i := 478) (by decide +kernel)⟩
theorem lw_p30 : lw_okq (⟨"MarkedSteps$Machine", "doOneAct", "()I"⟩, 16) := ⟨⟨by decide +kernel, by decide +kernel⟩, List.mem_of_getElem? (i := 24) (by decide +kernel), List.mem_of_getElem? (i := 481) (by decide +kernel), List.mem_of_getElem? (i := 482) (by decide +kernel)⟩
theorem lw_p31 : lw_okq (⟨"MarkedSteps$Machine", "perform", "(LMarkedSteps$Frame;)I"⟩, 16) := ⟨⟨by decide +kernel, by decide +kernel⟩, List.mem_of_getElem? (i := 24) (by decide +kernel), List.mem_of_getElem? (i := 485) (by decide +kernel), List.mem_of_getElem? (i := 486) (by decide +kernel)⟩
def lw_privs_2 : List (MethodName × Nat) := [(⟨"MarkedSteps$Machine", "beginFrame", "(I[LMarkedSteps$Slot;I)Z"⟩, 16), (⟨"MarkedSteps$Purse", "paysFor", "(I)Z"⟩, 4), (⟨"MarkedSteps$Purse", "takes", "(J)Z"⟩, 4), (⟨"MarkedSteps$Frame", "begin", "(LMarkedSteps$Member;I[LMarkedSteps$Slot;I)V"⟩, 7), (⟨"MarkedSteps$Machine", "keepTrace", "(I)V"⟩, 16), (⟨"MarkedSteps$Machine", "endFramesBehindTheirActs", "()I"⟩, 16), (⟨"MarkedSteps$Machine", "top", "()LMarkedSteps$Frame;"⟩, 16), (⟨"MarkedSteps$Frame", "isBehindItsActs", "()Z"⟩, 7), (⟨"MarkedSteps$Machine", "endFrame", "()V"⟩, 16), (⟨"MarkedSteps$Monitors", "leaveAll", "(LMarkedSteps$Frame;)V"⟩, 1), (⟨"MarkedSteps$Frame", "takeGiven", "(LMarkedSteps$Slot;)V"⟩, 7), (⟨"MarkedSteps$Frame", "named", "(I)LMarkedSteps$Slot;"⟩, 7), (⟨"MarkedSteps$Machine", "stop", "()I"⟩, 16), (⟨"MarkedSteps$Machine", "doActs", "(I)I"⟩, 16), (⟨"MarkedSteps$Machine", "doOneAct", "()I"⟩, 16), (⟨"MarkedSteps$Machine", "perform", "(LMarkedSteps$Frame;)I"⟩, 16)]
theorem lw_r2 : ∀ q ∈ lw_privs_2, lw_okq q := List.forall_mem_cons.mpr ⟨lw_p16, List.forall_mem_cons.mpr ⟨lw_p17, List.forall_mem_cons.mpr ⟨lw_p18, List.forall_mem_cons.mpr ⟨lw_p19, List.forall_mem_cons.mpr ⟨lw_p20, List.forall_mem_cons.mpr ⟨lw_p21, List.forall_mem_cons.mpr ⟨lw_p22, List.forall_mem_cons.mpr ⟨lw_p23, List.forall_mem_cons.mpr ⟨lw_p24, List.forall_mem_cons.mpr ⟨lw_p25, List.forall_mem_cons.mpr ⟨lw_p26, List.forall_mem_cons.mpr ⟨lw_p27, List.forall_mem_cons.mpr ⟨lw_p28, List.forall_mem_cons.mpr ⟨lw_p29, List.forall_mem_cons.mpr ⟨lw_p30, List.forall_mem_cons.mpr ⟨lw_p31, fun _ h => absurd h List.not_mem_nil⟩⟩⟩⟩⟩⟩⟩⟩⟩⟩⟩⟩⟩⟩⟩⟩
theorem lw_p32 : lw_okq (⟨"MarkedSteps$Slot", "isSameAs", "(LMarkedSteps$Slot;)Z"⟩, 4) := ⟨⟨by decide +kernel, by decide +kernel⟩, List.mem_of_getElem? (i := 68) (by decide +kernel), List.mem_of_getElem? (i := 491) (by decide +kernel), List.mem_of_getElem? (i := 492) (by decide +kernel)⟩
theorem lw_p33 : lw_okq (⟨"MarkedSteps$Machine", "goTo", "(LMarkedSteps$Frame;I)I"⟩, 16) := ⟨⟨by decide +kernel, by decide +kernel⟩, List.mem_of_getElem? (i := 24) (by decide +kernel), List.mem_of_getElem? (i := 495) (by decide +kernel), List.mem_of_getElem? (i := 496) (by decide +kernel)⟩
theorem lw_p34 : lw_okq (⟨"MarkedSteps$Machine", "branch", "(LMarkedSteps$Frame;LMarkedSteps$Slot;I)I"⟩, 16) := ⟨⟨by decide +kernel, by decide +kernel⟩, List.mem_of_getElem? (i := 24) (by decide +kernel), List.mem_of_getElem? (i := 499) (by decide +kernel), List.mem_of_getElem? (i := 500) (by decide +kernel)⟩
theorem lw_p35 : lw_okq (⟨"MarkedSteps$Slot", "misfitAsNumber", "()I"⟩, 4) := ⟨⟨by decide +kernel, by decide +kernel⟩, List.mem_of_getElem? (i := 68) (by decide +kernel), List.mem_of_getElem? (i := 503) (by decide +kernel), List.mem_of_getElem? (i := 504) (by decide +kernel)⟩
theorem lw_p36 : lw_okq (⟨"MarkedSteps$Slot", "misfit", "()I"⟩, 4) := ⟨⟨by decide +kernel, by decide +kernel⟩, List.mem_of_getElem? (i := 68) (by decide +kernel), List.mem_of_getElem? (i := 507) (by decide +kernel), List.mem_of_getElem? (i := 508) (by decide +kernel)⟩
theorem lw_p37 : lw_okq (⟨"MarkedSteps$Machine", "makeRow", "(LMarkedSteps$Slot;LMarkedSteps$Slot;I)I"⟩, 16) := ⟨⟨by decide +kernel, by decide +kernel⟩, List.mem_of_getElem? (i := 24) (by decide +kernel), List.mem_of_getElem? (i := 511) (by decide +kernel), List.mem_of_getElem? (i := 512) (by decide +kernel)⟩
theorem lw_p38 : lw_okq (⟨"MarkedSteps$Purse", "paysForRow", "(I)Z"⟩, 4) := ⟨⟨by decide +kernel, by decide +kernel⟩, List.mem_of_getElem? (i := 32) (by decide +kernel), List.mem_of_getElem? (i := 515) (by decide +kernel), List.mem_of_getElem? (i := 516) (by decide +kernel)⟩
theorem lw_p39 : lw_okq (⟨"MarkedSteps$Slot", "becomeRow", "(LMarkedSteps$Row;)V"⟩, 4) := ⟨⟨by decide +kernel, by decide +kernel⟩, List.mem_of_getElem? (i := 68) (by decide +kernel), List.mem_of_getElem? (i := 546) (by decide +kernel), List.mem_of_getElem? (i := 547) (by decide +kernel)⟩
theorem lw_p40 : lw_okq (⟨"MarkedSteps$Machine", "makeCell", "(LMarkedSteps$Slot;I)I"⟩, 16) := ⟨⟨by decide +kernel, by decide +kernel⟩, List.mem_of_getElem? (i := 24) (by decide +kernel), List.mem_of_getElem? (i := 550) (by decide +kernel), List.mem_of_getElem? (i := 551) (by decide +kernel)⟩
theorem lw_p41 : lw_okq (⟨"MarkedSteps$Slot", "becomeCell", "(LMarkedSteps$Cell;)V"⟩, 4) := ⟨⟨by decide +kernel, by decide +kernel⟩, List.mem_of_getElem? (i := 68) (by decide +kernel), List.mem_of_getElem? (i := 581) (by decide +kernel), List.mem_of_getElem? (i := 582) (by decide +kernel)⟩
theorem lw_p42 : lw_okq (⟨"MarkedSteps$Row", "misfitInCell", "(LMarkedSteps$Slot;)I"⟩, 4) := ⟨⟨by decide +kernel, by decide +kernel⟩, List.mem_of_getElem? (i := 519) (by decide +kernel), List.mem_of_getElem? (i := 589) (by decide +kernel), List.mem_of_getElem? (i := 590) (by decide +kernel)⟩
theorem lw_p43 : lw_okq (⟨"MarkedSteps$Slot", "isNothing", "()Z"⟩, 4) := ⟨⟨by decide +kernel, by decide +kernel⟩, List.mem_of_getElem? (i := 68) (by decide +kernel), List.mem_of_getElem? (i := 594) (by decide +kernel), List.mem_of_getElem? (i := 595) (by decide +kernel)⟩
theorem lw_p44 : lw_okq (⟨"MarkedSteps$Row", "lacksCell", "(I)Z"⟩, 4) := ⟨⟨by decide +kernel, by decide +kernel⟩, List.mem_of_getElem? (i := 519) (by decide +kernel), List.mem_of_getElem? (i := 598) (by decide +kernel), List.mem_of_getElem? (i := 599) (by decide +kernel)⟩
theorem lw_p45 : lw_okq (⟨"MarkedSteps$Row", "copyFrom", "(LMarkedSteps$Slot;I)V"⟩, 4) := ⟨⟨by decide +kernel, by decide +kernel⟩, List.mem_of_getElem? (i := 519) (by decide +kernel), List.mem_of_getElem? (i := 602) (by decide +kernel), List.mem_of_getElem? (i := 603) (by decide +kernel)⟩
theorem lw_p46 : lw_okq (⟨"MarkedSteps$Row", "narrowed", "(I)I"⟩, 4) := ⟨⟨by decide +kernel, by decide +kernel⟩, List.mem_of_getElem? (i := 519) (by decide +kernel), List.mem_of_getElem? (i := 606) (by decide +kernel), List.mem_of_getElem? (i := 607) (by decide +kernel)⟩
theorem lw_p47 : lw_okq (⟨"MarkedSteps$Row", "copyTo", "(LMarkedSteps$Slot;I)V"⟩, 4) := ⟨⟨by decide +kernel, by decide +kernel⟩, List.mem_of_getElem? (i := 519) (by decide +kernel), List.mem_of_getElem? (i := 614) (by decide +kernel), List.mem_of_getElem? (i := 615) (by decide +kernel)⟩
def lw_privs_3 : List (MethodName × Nat) := [(⟨"MarkedSteps$Slot", "isSameAs", "(LMarkedSteps$Slot;)Z"⟩, 4), (⟨"MarkedSteps$Machine", "goTo", "(LMarkedSteps$Frame;I)I"⟩, 16), (⟨"MarkedSteps$Machine", "branch", "(LMarkedSteps$Frame;LMarkedSteps$Slot;I)I"⟩, 16), (⟨"MarkedSteps$Slot", "misfitAsNumber", "()I"⟩, 4), (⟨"MarkedSteps$Slot", "misfit", "()I"⟩, 4), (⟨"MarkedSteps$Machine", "makeRow", "(LMarkedSteps$Slot;LMarkedSteps$Slot;I)I"⟩, 16), (⟨"MarkedSteps$Purse", "paysForRow", "(I)Z"⟩, 4), (⟨"MarkedSteps$Slot", "becomeRow", "(LMarkedSteps$Row;)V"⟩, 4), (⟨"MarkedSteps$Machine", "makeCell", "(LMarkedSteps$Slot;I)I"⟩, 16), (⟨"MarkedSteps$Slot", "becomeCell", "(LMarkedSteps$Cell;)V"⟩, 4), (⟨"MarkedSteps$Row", "misfitInCell", "(LMarkedSteps$Slot;)I"⟩, 4), (⟨"MarkedSteps$Slot", "isNothing", "()Z"⟩, 4), (⟨"MarkedSteps$Row", "lacksCell", "(I)Z"⟩, 4), (⟨"MarkedSteps$Row", "copyFrom", "(LMarkedSteps$Slot;I)V"⟩, 4), (⟨"MarkedSteps$Row", "narrowed", "(I)I"⟩, 4), (⟨"MarkedSteps$Row", "copyTo", "(LMarkedSteps$Slot;I)V"⟩, 4)]
theorem lw_r3 : ∀ q ∈ lw_privs_3, lw_okq q := List.forall_mem_cons.mpr ⟨lw_p32, List.forall_mem_cons.mpr ⟨lw_p33, List.forall_mem_cons.mpr ⟨lw_p34, List.forall_mem_cons.mpr ⟨lw_p35, List.forall_mem_cons.mpr ⟨lw_p36, List.forall_mem_cons.mpr ⟨lw_p37, List.forall_mem_cons.mpr ⟨lw_p38, List.forall_mem_cons.mpr ⟨lw_p39, List.forall_mem_cons.mpr ⟨lw_p40, List.forall_mem_cons.mpr ⟨lw_p41, List.forall_mem_cons.mpr ⟨lw_p42, List.forall_mem_cons.mpr ⟨lw_p43, List.forall_mem_cons.mpr ⟨lw_p44, List.forall_mem_cons.mpr ⟨lw_p45, List.forall_mem_cons.mpr ⟨lw_p46, List.forall_mem_cons.mpr ⟨lw_p47, fun _ h => absurd h List.not_mem_nil⟩⟩⟩⟩⟩⟩⟩⟩⟩⟩⟩⟩⟩⟩⟩⟩
theorem lw_p48 : lw_okq (⟨"MarkedSteps$Cell", "otherMark", "()I"⟩, 4) := ⟨⟨by decide +kernel, by decide +kernel⟩, List.mem_of_getElem? (i := 554) (by decide +kernel), List.mem_of_getElem? (i := 627) (by decide +kernel), List.mem_of_getElem? (i := 628) (by decide +kernel)⟩
theorem lw_p49 : lw_okq (⟨"MarkedSteps$Slot", "isOf", "(I)Z"⟩, 4) := ⟨⟨by decide +kernel, by decide +kernel⟩, List.mem_of_getElem? (i := 68) (by decide +kernel), List.mem_of_getElem? (i := 634) (by decide +kernel), List.mem_of_getElem? (i := 635) (by decide +kernel)⟩
theorem lw_p50 : lw_okq (⟨"MarkedSteps$Machine", "enter", "(LMarkedSteps$Frame;LMarkedSteps$Slot;)I"⟩, 16) := ⟨⟨by decide +kernel, by decide +kernel⟩, List.mem_of_getElem? (i := 24) (by decide +kernel), List.mem_of_getElem? (i := 640) (by decide +kernel), List.mem_of_getElem? (i := 641) (by decide +kernel)⟩
theorem lw_p51 : lw_okq (⟨"MarkedSteps$Monitors", "enter", "(LMarkedSteps$Frame;LMarkedSteps$Cell;)V"⟩, 1) := ⟨⟨by decide +kernel, by decide +kernel⟩, List.mem_of_getElem? (i := 56) (by decide +kernel), List.mem_of_getElem? (i := 644) (by decide +kernel), List.mem_of_getElem? (i := 645) (by decide +kernel)⟩
theorem lw_p52 : lw_okq (⟨"MarkedSteps$Monitors", "newHold", "(LMarkedSteps$Frame;LMarkedSteps$Cell;)LMarkedSteps$Hold;"⟩, 1) := ⟨⟨by decide +kernel, by decide +kernel⟩, List.mem_of_getElem? (i := 56) (by decide +kernel), List.mem_of_getElem? (i := 648) (by decide +kernel), List.mem_of_getElem? (i := 649) (by decide +kernel)⟩
theorem lw_p53 : lw_okq (⟨"MarkedSteps$Machine", "leave", "(LMarkedSteps$Frame;LMarkedSteps$Slot;)I"⟩, 16) := ⟨⟨by decide +kernel, by decide +kernel⟩, List.mem_of_getElem? (i := 24) (by decide +kernel), List.mem_of_getElem? (i := 676) (by decide +kernel), List.mem_of_getElem? (i := 677) (by decide +kernel)⟩
theorem lw_p54 : lw_okq (⟨"MarkedSteps$Monitors", "leave", "(LMarkedSteps$Frame;LMarkedSteps$Cell;)Z"⟩, 1) := ⟨⟨by decide +kernel, by decide +kernel⟩, List.mem_of_getElem? (i := 56) (by decide +kernel), List.mem_of_getElem? (i := 680) (by decide +kernel), List.mem_of_getElem? (i := 681) (by decide +kernel)⟩
theorem lw_p55 : lw_okq (⟨"MarkedSteps$Machine", "throwOwn", "(LMarkedSteps$Slot;)I"⟩, 16) := ⟨⟨by decide +kernel, by decide +kernel⟩, List.mem_of_getElem? (i := 24) (by decide +kernel), List.mem_of_getElem? (i := 684) (by decide +kernel), List.mem_of_getElem? (i := 685) (by decide +kernel)⟩
theorem lw_p56 : lw_okq (⟨"MarkedSteps$Machine", "call", "(LMarkedSteps$Frame;II)I"⟩, 16) := ⟨⟨by decide +kernel, by decide +kernel⟩, List.mem_of_getElem? (i := 24) (by decide +kernel), List.mem_of_getElem? (i := 688) (by decide +kernel), List.mem_of_getElem? (i := 689) (by decide +kernel)⟩
theorem lw_p57 : lw_okq (⟨"MarkedSteps$Frame", "give", "(LMarkedSteps$Slot;)V"⟩, 7) := ⟨⟨by decide +kernel, by decide +kernel⟩, List.mem_of_getElem? (i := 156) (by decide +kernel), List.mem_of_getElem? (i := 693) (by decide +kernel), List.mem_of_getElem? (i := 694) (by decide +kernel)⟩
theorem lw_p58 : lw_okq (⟨"MarkedSteps$Machine", "note", "(LMarkedSteps$Slot;LMarkedSteps$Slot;)I"⟩, 16) := ⟨⟨by decide +kernel, by decide +kernel⟩, List.mem_of_getElem? (i := 24) (by decide +kernel), List.mem_of_getElem? (i := 697) (by decide +kernel), List.mem_of_getElem? (i := 698) (by decide +kernel)⟩
theorem lw_p59 : lw_okq (⟨"MarkedSteps$Machine", "ask", "(LMarkedSteps$Slot;LMarkedSteps$Slot;)I"⟩, 16) := ⟨⟨by decide +kernel, by decide +kernel⟩, List.mem_of_getElem? (i := 24) (by decide +kernel), List.mem_of_getElem? (i := 705) (by decide +kernel), List.mem_of_getElem? (i := 706) (by decide +kernel)⟩
theorem lw_p60 : lw_okq (⟨"MarkedSteps$Machine", "weigh", "(LMarkedSteps$Slot;LMarkedSteps$Slot;)I"⟩, 16) := ⟨⟨by decide +kernel, by decide +kernel⟩, List.mem_of_getElem? (i := 24) (by decide +kernel), List.mem_of_getElem? (i := 709) (by decide +kernel), List.mem_of_getElem? (i := 710) (by decide +kernel)⟩
theorem lw_p61 : lw_okq (⟨"MarkedSteps$Cell", "bodiesOfWeight", "()I"⟩, 4) := ⟨⟨by decide +kernel, by decide +kernel⟩, List.mem_of_getElem? (i := 554) (by decide +kernel), List.mem_of_getElem? (i := 713) (by decide +kernel), List.mem_of_getElem? (i := 714) (by decide +kernel)⟩
theorem lw_p62 : lw_okq (⟨"MarkedSteps$Cell", "weight", "()I"⟩, 4) := ⟨⟨by decide +kernel, by decide +kernel⟩, List.mem_of_getElem? (i := 554) (by decide +kernel), List.mem_of_getElem? (i := 717) (by decide +kernel), List.mem_of_getElem? (i := 718) (by decide +kernel)⟩
theorem lw_p63 : lw_okq (⟨"MarkedSteps$Machine", "goToHandler", "(I)I"⟩, 16) := ⟨⟨by decide +kernel, by decide +kernel⟩, List.mem_of_getElem? (i := 24) (by decide +kernel), List.mem_of_getElem? (i := 724) (by decide +kernel), List.mem_of_getElem? (i := 725) (by decide +kernel)⟩
def lw_privs_4 : List (MethodName × Nat) := [(⟨"MarkedSteps$Cell", "otherMark", "()I"⟩, 4), (⟨"MarkedSteps$Slot", "isOf", "(I)Z"⟩, 4), (⟨"MarkedSteps$Machine", "enter", "(LMarkedSteps$Frame;LMarkedSteps$Slot;)I"⟩, 16), (⟨"MarkedSteps$Monitors", "enter", "(LMarkedSteps$Frame;LMarkedSteps$Cell;)V"⟩, 1), (⟨"MarkedSteps$Monitors", "newHold", "(LMarkedSteps$Frame;LMarkedSteps$Cell;)LMarkedSteps$Hold;"⟩, 1), (⟨"MarkedSteps$Machine", "leave", "(LMarkedSteps$Frame;LMarkedSteps$Slot;)I"⟩, 16), (⟨"MarkedSteps$Monitors", "leave", "(LMarkedSteps$Frame;LMarkedSteps$Cell;)Z"⟩, 1), (⟨"MarkedSteps$Machine", "throwOwn", "(LMarkedSteps$Slot;)I"⟩, 16), (⟨"MarkedSteps$Machine", "call", "(LMarkedSteps$Frame;II)I"⟩, 16), (⟨"MarkedSteps$Frame", "give", "(LMarkedSteps$Slot;)V"⟩, 7), (⟨"MarkedSteps$Machine", "note", "(LMarkedSteps$Slot;LMarkedSteps$Slot;)I"⟩, 16), (⟨"MarkedSteps$Machine", "ask", "(LMarkedSteps$Slot;LMarkedSteps$Slot;)I"⟩, 16), (⟨"MarkedSteps$Machine", "weigh", "(LMarkedSteps$Slot;LMarkedSteps$Slot;)I"⟩, 16), (⟨"MarkedSteps$Cell", "bodiesOfWeight", "()I"⟩, 4), (⟨"MarkedSteps$Cell", "weight", "()I"⟩, 4), (⟨"MarkedSteps$Machine", "goToHandler", "(I)I"⟩, 16)]
theorem lw_r4 : ∀ q ∈ lw_privs_4, lw_okq q := List.forall_mem_cons.mpr ⟨lw_p48, List.forall_mem_cons.mpr ⟨lw_p49, List.forall_mem_cons.mpr ⟨lw_p50, List.forall_mem_cons.mpr ⟨lw_p51, List.forall_mem_cons.mpr ⟨lw_p52, List.forall_mem_cons.mpr ⟨lw_p53, List.forall_mem_cons.mpr ⟨lw_p54, List.forall_mem_cons.mpr ⟨lw_p55, List.forall_mem_cons.mpr ⟨lw_p56, List.forall_mem_cons.mpr ⟨lw_p57, List.forall_mem_cons.mpr ⟨lw_p58, List.forall_mem_cons.mpr ⟨lw_p59, List.forall_mem_cons.mpr ⟨lw_p60, List.forall_mem_cons.mpr ⟨lw_p61, List.forall_mem_cons.mpr ⟨lw_p62, List.forall_mem_cons.mpr ⟨lw_p63, fun _ h => absurd h List.not_mem_nil⟩⟩⟩⟩⟩⟩⟩⟩⟩⟩⟩⟩⟩⟩⟩⟩
theorem lw_p64 : lw_okq (⟨"MarkedSteps$Member", "firstHandlerOf", "(II)I"⟩, 12) := ⟨⟨by decide +kernel, by decide +kernel⟩, List.mem_of_getElem? (i := 95) (by decide +kernel), List.mem_of_getElem? (i := 728) (by decide +kernel), List.mem_of_getElem? (i := 729) (by decide +kernel)⟩
theorem lw_p65 : lw_okq (⟨"MarkedSteps$Machine", "beginHandler", "(LMarkedSteps$Frame;II)I"⟩, 16) := ⟨⟨by decide +kernel, by decide +kernel⟩, List.mem_of_getElem? (i := 24) (by decide +kernel), List.mem_of_getElem? (i := 733) (by decide +kernel), List.mem_of_getElem? (i := 734) (by decide +kernel)⟩
theorem lw_p66 : lw_okq (⟨"MarkedSteps$Slot", "measure", "()I"⟩, 4) := ⟨⟨by decide +kernel, by decide +kernel⟩, List.mem_of_getElem? (i := 68) (by decide +kernel), List.mem_of_getElem? (i := 741) (by decide +kernel), List.mem_of_getElem? (i := 742) (by decide +kernel)⟩
theorem lw_p67 : lw_okq (⟨"MarkedSteps$Cell", "timesHeld", "()I"⟩, 4) := ⟨⟨by decide +kernel, by decide +kernel⟩, List.mem_of_getElem? (i := 554) (by decide +kernel), List.mem_of_getElem? (i := 745) (by decide +kernel), List.mem_of_getElem? (i := 746) (by decide +kernel)⟩
theorem lw_p68 : lw_okq (⟨"MarkedSteps$Machine", "holdings", "()I"⟩, 16) := ⟨⟨by decide +kernel, by decide +kernel⟩, List.mem_of_getElem? (i := 24) (by decide +kernel), List.mem_of_getElem? (i := 784) (by decide +kernel), List.mem_of_getElem? (i := 785) (by decide +kernel)⟩
theorem lw_p69 : lw_okq (⟨"MarkedStepsModel", "isMember", "(I)Z"⟩, 49) := ⟨⟨by decide +kernel, by decide +kernel⟩, List.mem_of_getElem? (i := 801) (by decide +kernel), List.mem_of_getElem? (i := 967) (by decide +kernel), List.mem_of_getElem? (i := 968) (by decide +kernel)⟩
theorem lw_p70 : lw_okq (⟨"MarkedStepsModel", "spread", "(II)V"⟩, 49) := ⟨⟨by decide +kernel, by decide +kernel⟩, List.mem_of_getElem? (i := 801) (by decide +kernel), List.mem_of_getElem? (i := 993) (by decide +kernel), List.mem_of_getElem? (i := 994) (by decide +kernel)⟩
theorem lw_p71 : lw_okq (⟨"MarkedStepsModel", "makes", "(I)I"⟩, 49) := ⟨⟨by decide +kernel, by decide +kernel⟩, List.mem_of_getElem? (i := 801) (by decide +kernel), List.mem_of_getElem? (i := 997) (by decide +kernel), List.mem_of_getElem? (i := 998) (by decide +kernel)⟩
theorem lw_p72 : lw_okq (⟨"MarkedStepsModel", "comes", "(II)V"⟩, 49) := ⟨⟨by decide +kernel, by decide +kernel⟩, List.mem_of_getElem? (i := 801) (by decide +kernel), List.mem_of_getElem? (i := 1001) (by decide +kernel), List.mem_of_getElem? (i := 1002) (by decide +kernel)⟩
theorem lw_p73 : lw_okq (⟨"MarkedStepsModel", "looked", "(I)I"⟩, 49) := ⟨⟨by decide +kernel, by decide +kernel⟩, List.mem_of_getElem? (i := 801) (by decide +kernel), List.mem_of_getElem? (i := 1005) (by decide +kernel), List.mem_of_getElem? (i := 1006) (by decide +kernel)⟩
theorem lw_p74 : lw_okq (⟨"MarkedStepsModel", "start", "(II)V"⟩, 49) := ⟨⟨by decide +kernel, by decide +kernel⟩, List.mem_of_getElem? (i := 801) (by decide +kernel), List.mem_of_getElem? (i := 1029) (by decide +kernel), List.mem_of_getElem? (i := 1030) (by decide +kernel)⟩
theorem lw_p75 : lw_okq (⟨"MarkedStepsModel", "begins", "(II)Z"⟩, 49) := ⟨⟨by decide +kernel, by decide +kernel⟩, List.mem_of_getElem? (i := 801) (by decide +kernel), List.mem_of_getElem? (i := 1033) (by decide +kernel), List.mem_of_getElem? (i := 1034) (by decide +kernel)⟩
theorem lw_p76 : lw_okq (⟨"MarkedStepsModel", "pays", "(J)Z"⟩, 49) := ⟨⟨by decide +kernel, by decide +kernel⟩, List.mem_of_getElem? (i := 801) (by decide +kernel), List.mem_of_getElem? (i := 1037) (by decide +kernel), List.mem_of_getElem? (i := 1038) (by decide +kernel)⟩
theorem lw_p77 : lw_okq (⟨"MarkedStepsModel", "traces", "(I)V"⟩, 49) := ⟨⟨by decide +kernel, by decide +kernel⟩, List.mem_of_getElem? (i := 801) (by decide +kernel), List.mem_of_getElem? (i := 1041) (by decide +kernel), List.mem_of_getElem? (i := 1042) (by decide +kernel)⟩
theorem lw_p78 : lw_okq (⟨"MarkedStepsModel", "stops", "()V"⟩, 49) := ⟨⟨by decide +kernel, by decide +kernel⟩, List.mem_of_getElem? (i := 801) (by decide +kernel), List.mem_of_getElem? (i := 1045) (by decide +kernel), List.mem_of_getElem? (i := 1046) (by decide +kernel)⟩
theorem lw_p79 : lw_okq (⟨"MarkedStepsModel", "release", "(I)V"⟩, 49) := ⟨⟨by decide +kernel, by decide +kernel⟩, List.mem_of_getElem? (i := 801) (by decide +kernel), List.mem_of_getElem? (i := 1049) (by decide +kernel), List.mem_of_getElem? (i := 1050) (by decide +kernel)⟩
def lw_privs_5 : List (MethodName × Nat) := [(⟨"MarkedSteps$Member", "firstHandlerOf", "(II)I"⟩, 12), (⟨"MarkedSteps$Machine", "beginHandler", "(LMarkedSteps$Frame;II)I"⟩, 16), (⟨"MarkedSteps$Slot", "measure", "()I"⟩, 4), (⟨"MarkedSteps$Cell", "timesHeld", "()I"⟩, 4), (⟨"MarkedSteps$Machine", "holdings", "()I"⟩, 16), (⟨"MarkedStepsModel", "isMember", "(I)Z"⟩, 49), (⟨"MarkedStepsModel", "spread", "(II)V"⟩, 49), (⟨"MarkedStepsModel", "makes", "(I)I"⟩, 49), (⟨"MarkedStepsModel", "comes", "(II)V"⟩, 49), (⟨"MarkedStepsModel", "looked", "(I)I"⟩, 49), (⟨"MarkedStepsModel", "start", "(II)V"⟩, 49), (⟨"MarkedStepsModel", "begins", "(II)Z"⟩, 49), (⟨"MarkedStepsModel", "pays", "(J)Z"⟩, 49), (⟨"MarkedStepsModel", "traces", "(I)V"⟩, 49), (⟨"MarkedStepsModel", "stops", "()V"⟩, 49), (⟨"MarkedStepsModel", "release", "(I)V"⟩, 49)]
theorem lw_r5 : ∀ q ∈ lw_privs_5, lw_okq q := List.forall_mem_cons.mpr ⟨lw_p64, List.forall_mem_cons.mpr ⟨lw_p65, List.forall_mem_cons.mpr ⟨lw_p66, List.forall_mem_cons.mpr ⟨lw_p67, List.forall_mem_cons.mpr ⟨lw_p68, List.forall_mem_cons.mpr ⟨lw_p69, List.forall_mem_cons.mpr ⟨lw_p70, List.forall_mem_cons.mpr ⟨lw_p71, List.forall_mem_cons.mpr ⟨lw_p72, List.forall_mem_cons.mpr ⟨lw_p73, List.forall_mem_cons.mpr ⟨lw_p74, List.forall_mem_cons.mpr ⟨lw_p75, List.forall_mem_cons.mpr ⟨lw_p76, List.forall_mem_cons.mpr ⟨lw_p77, List.forall_mem_cons.mpr ⟨lw_p78, List.forall_mem_cons.mpr ⟨lw_p79, fun _ h => absurd h List.not_mem_nil⟩⟩⟩⟩⟩⟩⟩⟩⟩⟩⟩⟩⟩⟩⟩⟩
theorem lw_p80 : lw_okq (⟨"MarkedStepsModel", "settle", "()V"⟩, 49) := ⟨⟨by decide +kernel, by decide +kernel⟩, List.mem_of_getElem? (i := 801) (by decide +kernel), List.mem_of_getElem? (i := 1053) (by decide +kernel), List.mem_of_getElem? (i := 1054) (by decide +kernel)⟩
theorem lw_p81 : lw_okq (⟨"MarkedStepsModel", "gives", "(II)V"⟩, 49) := ⟨⟨by decide +kernel, by decide +kernel⟩, List.mem_of_getElem? (i := 801) (by decide +kernel), List.mem_of_getElem? (i := 1057) (by decide +kernel), List.mem_of_getElem? (i := 1058) (by decide +kernel)⟩
theorem lw_p82 : lw_okq (⟨"MarkedStepsModel", "goOn", "()V"⟩, 49) := ⟨⟨by decide +kernel, by decide +kernel⟩, List.mem_of_getElem? (i := 801) (by decide +kernel), List.mem_of_getElem? (i := 1061) (by decide +kernel), List.mem_of_getElem? (i := 1062) (by decide +kernel)⟩
theorem lw_p83 : lw_okq (⟨"MarkedStepsModel", "does", "(I)I"⟩, 49) := ⟨⟨by decide +kernel, by decide +kernel⟩, List.mem_of_getElem? (i := 801) (by decide +kernel), List.mem_of_getElem? (i := 1065) (by decide +kernel), List.mem_of_getElem? (i := 1066) (by decide +kernel)⟩
theorem lw_p84 : lw_okq (⟨"MarkedStepsModel", "makes", "(II)V"⟩, 49) := ⟨⟨by decide +kernel, by decide +kernel⟩, List.mem_of_getElem? (i := 801) (by decide +kernel), List.mem_of_getElem? (i := 1069) (by decide +kernel), List.mem_of_getElem? (i := 1070) (by decide +kernel)⟩
theorem lw_p85 : lw_okq (⟨"MarkedStepsModel", "same", "()I"⟩, 49) := ⟨⟨by decide +kernel, by decide +kernel⟩, List.mem_of_getElem? (i := 801) (by decide +kernel), List.mem_of_getElem? (i := 1073) (by decide +kernel), List.mem_of_getElem? (i := 1074) (by decide +kernel)⟩
theorem lw_p86 : lw_okq (⟨"MarkedStepsModel", "value", "(I)I"⟩, 49) := ⟨⟨by decide +kernel, by decide +kernel⟩, List.mem_of_getElem? (i := 801) (by decide +kernel), List.mem_of_getElem? (i := 1077) (by decide +kernel), List.mem_of_getElem? (i := 1078) (by decide +kernel)⟩
theorem lw_p87 : lw_okq (⟨"MarkedStepsModel", "goes", "(I)I"⟩, 49) := ⟨⟨by decide +kernel, by decide +kernel⟩, List.mem_of_getElem? (i := 801) (by decide +kernel), List.mem_of_getElem? (i := 1081) (by decide +kernel), List.mem_of_getElem? (i := 1082) (by decide +kernel)⟩
theorem lw_p88 : lw_okq (⟨"MarkedStepsModel", "branch", "()I"⟩, 49) := ⟨⟨by decide +kernel, by decide +kernel⟩, List.mem_of_getElem? (i := 801) (by decide +kernel), List.mem_of_getElem? (i := 1085) (by decide +kernel), List.mem_of_getElem? (i := 1086) (by decide +kernel)⟩
theorem lw_p89 : lw_okq (⟨"MarkedStepsModel", "against", "(II)I"⟩, 49) := ⟨⟨by decide +kernel, by decide +kernel⟩, List.mem_of_getElem? (i := 801) (by decide +kernel), List.mem_of_getElem? (i := 1089) (by decide +kernel), List.mem_of_getElem? (i := 1090) (by decide +kernel)⟩
theorem lw_p90 : lw_okq (⟨"MarkedStepsModel", "newRow", "()I"⟩, 49) := ⟨⟨by decide +kernel, by decide +kernel⟩, List.mem_of_getElem? (i := 801) (by decide +kernel), List.mem_of_getElem? (i := 1093) (by decide +kernel), List.mem_of_getElem? (i := 1094) (by decide +kernel)⟩
theorem lw_p91 : lw_okq (⟨"MarkedStepsModel", "newCell", "()I"⟩, 49) := ⟨⟨by decide +kernel, by decide +kernel⟩, List.mem_of_getElem? (i := 801) (by decide +kernel), List.mem_of_getElem? (i := 1097) (by decide +kernel), List.mem_of_getElem? (i := 1098) (by decide +kernel)⟩
theorem lw_p92 : lw_okq (⟨"MarkedStepsModel", "put", "()I"⟩, 49) := ⟨⟨by decide +kernel, by decide +kernel⟩, List.mem_of_getElem? (i := 801) (by decide +kernel), List.mem_of_getElem? (i := 1101) (by decide +kernel), List.mem_of_getElem? (i := 1102) (by decide +kernel)⟩
theorem lw_p93 : lw_okq (⟨"MarkedStepsModel", "get", "()I"⟩, 49) := ⟨⟨by decide +kernel, by decide +kernel⟩, List.mem_of_getElem? (i := 801) (by decide +kernel), List.mem_of_getElem? (i := 1109) (by decide +kernel), List.mem_of_getElem? (i := 1110) (by decide +kernel)⟩
theorem lw_p94 : lw_okq (⟨"MarkedStepsModel", "length", "()I"⟩, 49) := ⟨⟨by decide +kernel, by decide +kernel⟩, List.mem_of_getElem? (i := 801) (by decide +kernel), List.mem_of_getElem? (i := 1113) (by decide +kernel), List.mem_of_getElem? (i := 1114) (by decide +kernel)⟩
theorem lw_p95 : lw_okq (⟨"MarkedStepsModel", "field", "()I"⟩, 49) := ⟨⟨by decide +kernel, by decide +kernel⟩, List.mem_of_getElem? (i := 801) (by decide +kernel), List.mem_of_getElem? (i := 1117) (by decide +kernel), List.mem_of_getElem? (i := 1118) (by decide +kernel)⟩
def lw_privs_6 : List (MethodName × Nat) := [(⟨"MarkedStepsModel", "settle", "()V"⟩, 49), (⟨"MarkedStepsModel", "gives", "(II)V"⟩, 49), (⟨"MarkedStepsModel", "goOn", "()V"⟩, 49), (⟨"MarkedStepsModel", "does", "(I)I"⟩, 49), (⟨"MarkedStepsModel", "makes", "(II)V"⟩, 49), (⟨"MarkedStepsModel", "same", "()I"⟩, 49), (⟨"MarkedStepsModel", "value", "(I)I"⟩, 49), (⟨"MarkedStepsModel", "goes", "(I)I"⟩, 49), (⟨"MarkedStepsModel", "branch", "()I"⟩, 49), (⟨"MarkedStepsModel", "against", "(II)I"⟩, 49), (⟨"MarkedStepsModel", "newRow", "()I"⟩, 49), (⟨"MarkedStepsModel", "newCell", "()I"⟩, 49), (⟨"MarkedStepsModel", "put", "()I"⟩, 49), (⟨"MarkedStepsModel", "get", "()I"⟩, 49), (⟨"MarkedStepsModel", "length", "()I"⟩, 49), (⟨"MarkedStepsModel", "field", "()I"⟩, 49)]
theorem lw_r6 : ∀ q ∈ lw_privs_6, lw_okq q := List.forall_mem_cons.mpr ⟨lw_p80, List.forall_mem_cons.mpr ⟨lw_p81, List.forall_mem_cons.mpr ⟨lw_p82, List.forall_mem_cons.mpr ⟨lw_p83, List.forall_mem_cons.mpr ⟨lw_p84, List.forall_mem_cons.mpr ⟨lw_p85, List.forall_mem_cons.mpr ⟨lw_p86, List.forall_mem_cons.mpr ⟨lw_p87, List.forall_mem_cons.mpr ⟨lw_p88, List.forall_mem_cons.mpr ⟨lw_p89, List.forall_mem_cons.mpr ⟨lw_p90, List.forall_mem_cons.mpr ⟨lw_p91, List.forall_mem_cons.mpr ⟨lw_p92, List.forall_mem_cons.mpr ⟨lw_p93, List.forall_mem_cons.mpr ⟨lw_p94, List.forall_mem_cons.mpr ⟨lw_p95, fun _ h => absurd h List.not_mem_nil⟩⟩⟩⟩⟩⟩⟩⟩⟩⟩⟩⟩⟩⟩⟩⟩
theorem lw_p96 : lw_okq (⟨"MarkedStepsModel", "fill", "()I"⟩, 49) := ⟨⟨by decide +kernel, by decide +kernel⟩, List.mem_of_getElem? (i := 801) (by decide +kernel), List.mem_of_getElem? (i := 1121) (by decide +kernel), List.mem_of_getElem? (i := 1122) (by decide +kernel)⟩
theorem lw_p97 : lw_okq (⟨"MarkedStepsModel", "isOf", "(III)Z"⟩, 49) := ⟨⟨by decide +kernel, by decide +kernel⟩, List.mem_of_getElem? (i := 801) (by decide +kernel), List.mem_of_getElem? (i := 1125) (by decide +kernel), List.mem_of_getElem? (i := 1126) (by decide +kernel)⟩
theorem lw_p98 : lw_okq (⟨"MarkedStepsModel", "kindOf", "(II)I"⟩, 49) := ⟨⟨by decide +kernel, by decide +kernel⟩, List.mem_of_getElem? (i := 801) (by decide +kernel), List.mem_of_getElem? (i := 1129) (by decide +kernel), List.mem_of_getElem? (i := 1130) (by decide +kernel)⟩
theorem lw_p99 : lw_okq (⟨"MarkedStepsModel", "monitor", "(Z)I"⟩, 49) := ⟨⟨by decide +kernel, by decide +kernel⟩, List.mem_of_getElem? (i := 801) (by decide +kernel), List.mem_of_getElem? (i := 1133) (by decide +kernel), List.mem_of_getElem? (i := 1134) (by decide +kernel)⟩
theorem lw_p100 : lw_okq (⟨"MarkedStepsModel", "call", "()I"⟩, 49) := ⟨⟨by decide +kernel, by decide +kernel⟩, List.mem_of_getElem? (i := 801) (by decide +kernel), List.mem_of_getElem? (i := 1137) (by decide +kernel), List.mem_of_getElem? (i := 1138) (by decide +kernel)⟩
theorem lw_p101 : lw_okq (⟨"MarkedStepsModel", "note", "()I"⟩, 49) := ⟨⟨by decide +kernel, by decide +kernel⟩, List.mem_of_getElem? (i := 801) (by decide +kernel), List.mem_of_getElem? (i := 1141) (by decide +kernel), List.mem_of_getElem? (i := 1142) (by decide +kernel)⟩
theorem lw_p102 : lw_okq (⟨"MarkedStepsModel", "ask", "()I"⟩, 49) := ⟨⟨by decide +kernel, by decide +kernel⟩, List.mem_of_getElem? (i := 801) (by decide +kernel), List.mem_of_getElem? (i := 1145) (by decide +kernel), List.mem_of_getElem? (i := 1146) (by decide +kernel)⟩
theorem lw_p103 : lw_okq (⟨"MarkedStepsModel", "weigh", "()I"⟩, 49) := ⟨⟨by decide +kernel, by decide +kernel⟩, List.mem_of_getElem? (i := 801) (by decide +kernel), List.mem_of_getElem? (i := 1149) (by decide +kernel), List.mem_of_getElem? (i := 1150) (by decide +kernel)⟩
theorem lw_p104 : lw_okq (⟨"MarkedStepsModel", "reckon", "(I)I"⟩, 49) := ⟨⟨by decide +kernel, by decide +kernel⟩, List.mem_of_getElem? (i := 801) (by decide +kernel), List.mem_of_getElem? (i := 1153) (by decide +kernel), List.mem_of_getElem? (i := 1154) (by decide +kernel)⟩
theorem lw_p105 : lw_okq (⟨"MarkedStepsModel", "againstBoth", "()I"⟩, 49) := ⟨⟨by decide +kernel, by decide +kernel⟩, List.mem_of_getElem? (i := 801) (by decide +kernel), List.mem_of_getElem? (i := 1157) (by decide +kernel), List.mem_of_getElem? (i := 1158) (by decide +kernel)⟩
theorem lw_p106 : lw_okq (⟨"MarkedStepsModel", "throwsIt", "(I)V"⟩, 49) := ⟨⟨by decide +kernel, by decide +kernel⟩, List.mem_of_getElem? (i := 801) (by decide +kernel), List.mem_of_getElem? (i := 1161) (by decide +kernel), List.mem_of_getElem? (i := 1162) (by decide +kernel)⟩
theorem lw_p107 : lw_okq (⟨"MarkedStepsModel", "toldOf", "(II)I"⟩, 49) := ⟨⟨by decide +kernel, by decide +kernel⟩, List.mem_of_getElem? (i := 801) (by decide +kernel), List.mem_of_getElem? (i := 1169) (by decide +kernel), List.mem_of_getElem? (i := 1170) (by decide +kernel)⟩
def lw_privs_7 : List (MethodName × Nat) := [(⟨"MarkedStepsModel", "fill", "()I"⟩, 49), (⟨"MarkedStepsModel", "isOf", "(III)Z"⟩, 49), (⟨"MarkedStepsModel", "kindOf", "(II)I"⟩, 49), (⟨"MarkedStepsModel", "monitor", "(Z)I"⟩, 49), (⟨"MarkedStepsModel", "call", "()I"⟩, 49), (⟨"MarkedStepsModel", "note", "()I"⟩, 49), (⟨"MarkedStepsModel", "ask", "()I"⟩, 49), (⟨"MarkedStepsModel", "weigh", "()I"⟩, 49), (⟨"MarkedStepsModel", "reckon", "(I)I"⟩, 49), (⟨"MarkedStepsModel", "againstBoth", "()I"⟩, 49), (⟨"MarkedStepsModel", "throwsIt", "(I)V"⟩, 49), (⟨"MarkedStepsModel", "toldOf", "(II)I"⟩, 49)]
theorem lw_r7 : ∀ q ∈ lw_privs_7, lw_okq q := List.forall_mem_cons.mpr ⟨lw_p96, List.forall_mem_cons.mpr ⟨lw_p97, List.forall_mem_cons.mpr ⟨lw_p98, List.forall_mem_cons.mpr ⟨lw_p99, List.forall_mem_cons.mpr ⟨lw_p100, List.forall_mem_cons.mpr ⟨lw_p101, List.forall_mem_cons.mpr ⟨lw_p102, List.forall_mem_cons.mpr ⟨lw_p103, List.forall_mem_cons.mpr ⟨lw_p104, List.forall_mem_cons.mpr ⟨lw_p105, List.forall_mem_cons.mpr ⟨lw_p106, List.forall_mem_cons.mpr ⟨lw_p107, fun _ h => absurd h List.not_mem_nil⟩⟩⟩⟩⟩⟩⟩⟩⟩⟩⟩⟩
def lw_privs : List (MethodName × Nat) := lw_privs_1 ++ (lw_privs_2 ++ (lw_privs_3 ++ (lw_privs_4 ++ (lw_privs_5 ++ (lw_privs_6 ++ (lw_privs_7))))))
def lw_tbl : List Cond := k2_sels lw_privs ++ tables_1
theorem lw_privs_ok : ∀ q ∈ lw_privs, lw_okq q := by
  show ∀ q ∈ lw_privs_1 ++ (lw_privs_2 ++ (lw_privs_3 ++ (lw_privs_4 ++ (lw_privs_5 ++ (lw_privs_6 ++ (lw_privs_7)))))), lw_okq q
  exact List.forall_mem_append.mpr ⟨lw_r1, List.forall_mem_append.mpr ⟨lw_r2, List.forall_mem_append.mpr ⟨lw_r3, List.forall_mem_append.mpr ⟨lw_r4, List.forall_mem_append.mpr ⟨lw_r5, List.forall_mem_append.mpr ⟨lw_r6, lw_r7⟩⟩⟩⟩⟩⟩
def RX0 : String := "MarkedSteps$Cell"
def TX0 : u_T := fun k => match k with
  | 0 => ("MarkedSteps$Cell", "sort", "I", true)
  | 1 => ("MarkedSteps$Cell", "next", "LMarkedSteps$Slot;", true)
  | 2 => ("MarkedSteps$Cell", "v", "I", false)
  | _ => ("MarkedSteps$Cell", "latestHold", "LMarkedSteps$Hold;", false)
def tyX0 : Nat → FieldType := fun k => match k with
  | 0 => .int
  | 1 => .object "MarkedSteps$Slot"
  | 2 => .int
  | _ => .object "MarkedSteps$Hold"
abbrev wsX00 : List Cond := u_ws RX0 TX0 4
theorem nmX0 : ∀ a, a < 4 → ∀ b, b < 4 → a ≠ b → (TX0 a).2.1 ≠ (TX0 b).2.1 := by decide +kernel
theorem tyX0_ok : ∀ k, k < 4 → parseFieldDescriptor (TX0 k).2.2.1 = some (tyX0 k) := by decide +kernel
abbrev cX0_init : ByteArray := prog_2_method_1_code
def yX0_init : MethodName := ⟨RX0, "<init>", "(I)V"⟩
abbrev cX0_otherMark : ByteArray := prog_2_method_2_code
def yX0_otherMark : MethodName := ⟨RX0, "otherMark", "()I"⟩
abbrev cX0_timesHeld : ByteArray := prog_2_method_3_code
def yX0_timesHeld : MethodName := ⟨RX0, "timesHeld", "()I"⟩
abbrev cX0_bodiesOfWeight : ByteArray := prog_2_method_4_code
def yX0_bodiesOfWeight : MethodName := ⟨RX0, "bodiesOfWeight", "()I"⟩
abbrev cX0_weight : ByteArray := prog_2_method_5_code
def yX0_weight : MethodName := ⟨RX0, "weight", "()I"⟩
def RX1 : String := "MarkedSteps$Frame"
def TX1 : u_T := fun k => match k with
  | 0 => ("MarkedSteps$Frame", "registers", "[LMarkedSteps$Slot;", true)
  | 1 => ("MarkedSteps$Frame", "given", "LMarkedSteps$Slot;", true)
  | 2 => ("MarkedSteps$Frame", "code", "LMarkedSteps$Member;", false)
  | 3 => ("MarkedSteps$Frame", "number", "I", false)
  | 4 => ("MarkedSteps$Frame", "at", "I", false)
  | 5 => ("MarkedSteps$Frame", "holds", "LMarkedSteps$Hold;", false)
  | _ => ("MarkedSteps$Frame", "holdings", "I", false)
def tyX1 : Nat → FieldType := fun k => match k with
  | 0 => .array (.object "MarkedSteps$Slot")
  | 1 => .object "MarkedSteps$Slot"
  | 2 => .object "MarkedSteps$Member"
  | 3 => .int
  | 4 => .int
  | 5 => .object "MarkedSteps$Hold"
  | _ => .int
abbrev wsX10 : List Cond := u_ws RX1 TX1 7
theorem nmX1 : ∀ a, a < 7 → ∀ b, b < 7 → a ≠ b → (TX1 a).2.1 ≠ (TX1 b).2.1 := by decide +kernel
theorem tyX1_ok : ∀ k, k < 7 → parseFieldDescriptor (TX1 k).2.2.1 = some (tyX1 k) := by decide +kernel
abbrev cX1_init : ByteArray := prog_3_method_1_code
def yX1_init : MethodName := ⟨RX1, "<init>", "(LMarkedSteps$Member;)V"⟩
abbrev cX1_begin : ByteArray := prog_3_method_2_code
def yX1_begin : MethodName := ⟨RX1, "begin", "(LMarkedSteps$Member;I[LMarkedSteps$Slot;I)V"⟩
abbrev cX1_named : ByteArray := prog_3_method_3_code
def yX1_named : MethodName := ⟨RX1, "named", "(I)LMarkedSteps$Slot;"⟩
abbrev cX1_isBehindItsActs : ByteArray := prog_3_method_4_code
def yX1_isBehindItsActs : MethodName := ⟨RX1, "isBehindItsActs", "()Z"⟩
abbrev cX1_give : ByteArray := prog_3_method_5_code
def yX1_give : MethodName := ⟨RX1, "give", "(LMarkedSteps$Slot;)V"⟩
abbrev cX1_takeGiven : ByteArray := prog_3_method_6_code
def yX1_takeGiven : MethodName := ⟨RX1, "takeGiven", "(LMarkedSteps$Slot;)V"⟩
def RX2 : String := "MarkedSteps$Hold"
def TX2 : u_T := fun k => match k with
  | 0 => ("MarkedSteps$Hold", "cell", "LMarkedSteps$Cell;", false)
  | 1 => ("MarkedSteps$Hold", "frame", "LMarkedSteps$Frame;", false)
  | 2 => ("MarkedSteps$Hold", "times", "I", false)
  | 3 => ("MarkedSteps$Hold", "under", "LMarkedSteps$Hold;", false)
  | _ => ("MarkedSteps$Hold", "beside", "LMarkedSteps$Hold;", false)
def tyX2 : Nat → FieldType := fun k => match k with
  | 0 => .object "MarkedSteps$Cell"
  | 1 => .object "MarkedSteps$Frame"
  | 2 => .int
  | 3 => .object "MarkedSteps$Hold"
  | _ => .object "MarkedSteps$Hold"
abbrev wsX20 : List Cond := u_ws RX2 TX2 5
theorem nmX2 : ∀ a, a < 5 → ∀ b, b < 5 → a ≠ b → (TX2 a).2.1 ≠ (TX2 b).2.1 := by decide +kernel
theorem tyX2_ok : ∀ k, k < 5 → parseFieldDescriptor (TX2 k).2.2.1 = some (tyX2 k) := by decide +kernel
abbrev cX2_init : ByteArray := prog_4_method_1_code
def yX2_init : MethodName := ⟨RX2, "<init>", "()V"⟩
def RX3 : String := "MarkedSteps$Machine"
def TX3 : u_T := fun k => match k with
  | 0 => ("MarkedSteps$Machine", "members", "[LMarkedSteps$Member;", true)
  | 1 => ("MarkedSteps$Machine", "memberCount", "I", false)
  | 2 => ("MarkedSteps$Machine", "purse", "LMarkedSteps$Purse;", true)
  | 3 => ("MarkedSteps$Machine", "monitors", "LMarkedSteps$Monitors;", true)
  | 4 => ("MarkedSteps$Machine", "plan", "[I", true)
  | 5 => ("MarkedSteps$Machine", "planAhead", "[I", true)
  | 6 => ("MarkedSteps$Machine", "frames", "[LMarkedSteps$Frame;", true)
  | 7 => ("MarkedSteps$Machine", "depth", "I", false)
  | 8 => ("MarkedSteps$Machine", "result", "LMarkedSteps$Slot;", true)
  | 9 => ("MarkedSteps$Machine", "thrownNumber", "I", false)
  | 10 => ("MarkedSteps$Machine", "traced", "[I", true)
  | 11 => ("MarkedSteps$Machine", "tracedCount", "I", false)
  | 12 => ("MarkedSteps$Machine", "begun", "I", false)
  | 13 => ("MarkedSteps$Machine", "stopped", "I", false)
  | 14 => ("MarkedSteps$Machine", "threw", "I", false)
  | _ => ("MarkedSteps$Machine", "gave", "I", false)
def tyX3 : Nat → FieldType := fun k => match k with
  | 0 => .array (.object "MarkedSteps$Member")
  | 1 => .int
  | 2 => .object "MarkedSteps$Purse"
  | 3 => .object "MarkedSteps$Monitors"
  | 4 => .array .int
  | 5 => .array .int
  | 6 => .array (.object "MarkedSteps$Frame")
  | 7 => .int
  | 8 => .object "MarkedSteps$Slot"
  | 9 => .int
  | 10 => .array .int
  | 11 => .int
  | 12 => .int
  | 13 => .int
  | 14 => .int
  | _ => .int
abbrev wsX30 : List Cond := u_ws RX3 TX3 16
theorem nmX3 : ∀ a, a < 16 → ∀ b, b < 16 → a ≠ b → (TX3 a).2.1 ≠ (TX3 b).2.1 := by decide +kernel
theorem tyX3_ok : ∀ k, k < 16 → parseFieldDescriptor (TX3 k).2.2.1 = some (tyX3 k) := by decide +kernel
abbrev cX3_init : ByteArray := prog_5_method_1_code
def yX3_init : MethodName := ⟨RX3, "<init>", "()V"⟩
abbrev cX3_lacksMember : ByteArray := prog_5_method_2_code
def yX3_lacksMember : MethodName := ⟨RX3, "lacksMember", "(I)Z"⟩
abbrev cX3_isWalked : ByteArray := prog_5_method_3_code
def yX3_isWalked : MethodName := ⟨RX3, "isWalked", "()Z"⟩
abbrev cX3_top : ByteArray := prog_5_method_4_code
def yX3_top : MethodName := ⟨RX3, "top", "()LMarkedSteps$Frame;"⟩
abbrev cX3_holdings : ByteArray := prog_5_method_5_code
def yX3_holdings : MethodName := ⟨RX3, "holdings", "()I"⟩
abbrev cX3_begin : ByteArray := prog_5_method_6_code
def yX3_begin : MethodName := ⟨RX3, "begin", "(II[LMarkedSteps$Slot;)I"⟩
abbrev cX3_doActs : ByteArray := prog_5_method_7_code
def yX3_doActs : MethodName := ⟨RX3, "doActs", "(I)I"⟩
abbrev cX3_doOneAct : ByteArray := prog_5_method_8_code
def yX3_doOneAct : MethodName := ⟨RX3, "doOneAct", "()I"⟩
abbrev cX3_beginFrame : ByteArray := prog_5_method_9_code
def yX3_beginFrame : MethodName := ⟨RX3, "beginFrame", "(I[LMarkedSteps$Slot;I)Z"⟩
abbrev cX3_endFrame : ByteArray := prog_5_method_10_code
def yX3_endFrame : MethodName := ⟨RX3, "endFrame", "()V"⟩
abbrev cX3_endFramesBehindTheirActs : ByteArray := prog_5_method_11_code
def yX3_endFramesBehindTheirActs : MethodName := ⟨RX3, "endFramesBehindTheirActs", "()I"⟩
abbrev cX3_goToHandler : ByteArray := prog_5_method_12_code
def yX3_goToHandler : MethodName := ⟨RX3, "goToHandler", "(I)I"⟩
abbrev cX3_beginHandler : ByteArray := prog_5_method_13_code
def yX3_beginHandler : MethodName := ⟨RX3, "beginHandler", "(LMarkedSteps$Frame;II)I"⟩
abbrev cX3_stop : ByteArray := prog_5_method_14_code
def yX3_stop : MethodName := ⟨RX3, "stop", "()I"⟩
abbrev cX3_keepTrace : ByteArray := prog_5_method_15_code
def yX3_keepTrace : MethodName := ⟨RX3, "keepTrace", "(I)V"⟩
abbrev cX3_perform : ByteArray := prog_5_method_16_code
def yX3_perform : MethodName := ⟨RX3, "perform", "(LMarkedSteps$Frame;)I"⟩
abbrev cX3_misfitAsNumbers : ByteArray := prog_5_method_17_code
def yX3_misfitAsNumbers : MethodName := ⟨RX3, "misfitAsNumbers", "(LMarkedSteps$Slot;LMarkedSteps$Slot;)I"⟩
abbrev cX3_reckon : ByteArray := prog_5_method_18_code
def yX3_reckon : MethodName := ⟨RX3, "reckon", "(ILMarkedSteps$Slot;LMarkedSteps$Slot;LMarkedSteps$Slot;)I"⟩
abbrev cX3_goTo : ByteArray := prog_5_method_19_code
def yX3_goTo : MethodName := ⟨RX3, "goTo", "(LMarkedSteps$Frame;I)I"⟩
abbrev cX3_branch : ByteArray := prog_5_method_20_code
def yX3_branch : MethodName := ⟨RX3, "branch", "(LMarkedSteps$Frame;LMarkedSteps$Slot;I)I"⟩
abbrev cX3_makeRow : ByteArray := prog_5_method_21_code
def yX3_makeRow : MethodName := ⟨RX3, "makeRow", "(LMarkedSteps$Slot;LMarkedSteps$Slot;I)I"⟩
abbrev cX3_makeCell : ByteArray := prog_5_method_22_code
def yX3_makeCell : MethodName := ⟨RX3, "makeCell", "(LMarkedSteps$Slot;I)I"⟩
abbrev cX3_put : ByteArray := prog_5_method_23_code
def yX3_put : MethodName := ⟨RX3, "put", "(LMarkedSteps$Slot;LMarkedSteps$Slot;LMarkedSteps$Slot;)I"⟩
abbrev cX3_get : ByteArray := prog_5_method_24_code
def yX3_get : MethodName := ⟨RX3, "get", "(LMarkedSteps$Slot;LMarkedSteps$Slot;LMarkedSteps$Slot;)I"⟩
abbrev cX3_length : ByteArray := prog_5_method_25_code
def yX3_length : MethodName := ⟨RX3, "length", "(LMarkedSteps$Slot;LMarkedSteps$Slot;)I"⟩
abbrev cX3_field : ByteArray := prog_5_method_26_code
def yX3_field : MethodName := ⟨RX3, "field", "(LMarkedSteps$Slot;LMarkedSteps$Slot;I)I"⟩
abbrev cX3_fill : ByteArray := prog_5_method_27_code
def yX3_fill : MethodName := ⟨RX3, "fill", "(LMarkedSteps$Slot;ILMarkedSteps$Slot;)I"⟩
abbrev cX3_enter : ByteArray := prog_5_method_28_code
def yX3_enter : MethodName := ⟨RX3, "enter", "(LMarkedSteps$Frame;LMarkedSteps$Slot;)I"⟩
abbrev cX3_leave : ByteArray := prog_5_method_29_code
def yX3_leave : MethodName := ⟨RX3, "leave", "(LMarkedSteps$Frame;LMarkedSteps$Slot;)I"⟩
abbrev cX3_throwOwn : ByteArray := prog_5_method_30_code
def yX3_throwOwn : MethodName := ⟨RX3, "throwOwn", "(LMarkedSteps$Slot;)I"⟩
abbrev cX3_call : ByteArray := prog_5_method_31_code
def yX3_call : MethodName := ⟨RX3, "call", "(LMarkedSteps$Frame;II)I"⟩
abbrev cX3_note : ByteArray := prog_5_method_32_code
def yX3_note : MethodName := ⟨RX3, "note", "(LMarkedSteps$Slot;LMarkedSteps$Slot;)I"⟩
abbrev cX3_ask : ByteArray := prog_5_method_33_code
def yX3_ask : MethodName := ⟨RX3, "ask", "(LMarkedSteps$Slot;LMarkedSteps$Slot;)I"⟩
abbrev cX3_weigh : ByteArray := prog_5_method_34_code
def yX3_weigh : MethodName := ⟨RX3, "weigh", "(LMarkedSteps$Slot;LMarkedSteps$Slot;)I"⟩
def RX4 : String := "MarkedSteps$Member"
def TX4 : u_T := fun k => match k with
  | 0 => ("MarkedSteps$Member", "wants", "I", false)
  | 1 => ("MarkedSteps$Member", "framesBegun", "I", false)
  | 2 => ("MarkedSteps$Member", "actCount", "I", false)
  | 3 => ("MarkedSteps$Member", "ops", "[I", true)
  | 4 => ("MarkedSteps$Member", "as", "[I", true)
  | 5 => ("MarkedSteps$Member", "bs", "[I", true)
  | 6 => ("MarkedSteps$Member", "cs", "[I", true)
  | 7 => ("MarkedSteps$Member", "handlerCount", "I", false)
  | 8 => ("MarkedSteps$Member", "froms", "[I", true)
  | 9 => ("MarkedSteps$Member", "tos", "[I", true)
  | 10 => ("MarkedSteps$Member", "kinds", "[I", true)
  | _ => ("MarkedSteps$Member", "ats", "[I", true)
def tyX4 : Nat → FieldType := fun k => match k with
  | 0 => .int
  | 1 => .int
  | 2 => .int
  | 3 => .array .int
  | 4 => .array .int
  | 5 => .array .int
  | 6 => .array .int
  | 7 => .int
  | 8 => .array .int
  | 9 => .array .int
  | 10 => .array .int
  | _ => .array .int
abbrev wsX40 : List Cond := u_ws RX4 TX4 12
theorem nmX4 : ∀ a, a < 12 → ∀ b, b < 12 → a ≠ b → (TX4 a).2.1 ≠ (TX4 b).2.1 := by decide +kernel
theorem tyX4_ok : ∀ k, k < 12 → parseFieldDescriptor (TX4 k).2.2.1 = some (tyX4 k) := by decide +kernel
abbrev cX4_init : ByteArray := prog_6_method_1_code
def yX4_init : MethodName := ⟨RX4, "<init>", "()V"⟩
abbrev cX4_addAct : ByteArray := prog_6_method_2_code
def yX4_addAct : MethodName := ⟨RX4, "addAct", "(IIII)I"⟩
abbrev cX4_addHandler : ByteArray := prog_6_method_3_code
def yX4_addHandler : MethodName := ⟨RX4, "addHandler", "(IIII)I"⟩
abbrev cX4_handlerHas : ByteArray := prog_6_method_4_code
def yX4_handlerHas : MethodName := ⟨RX4, "handlerHas", "(II)Z"⟩
abbrev cX4_firstHandlerOf : ByteArray := prog_6_method_5_code
def yX4_firstHandlerOf : MethodName := ⟨RX4, "firstHandlerOf", "(II)I"⟩
def RX5 : String := "MarkedSteps$Monitors"
def TX5 : u_T := fun k => match k with
  | _ => ("MarkedSteps$Monitors", "spare", "LMarkedSteps$Hold;", false)
def tyX5 : Nat → FieldType := fun k => match k with
  | _ => .object "MarkedSteps$Hold"
abbrev wsX50 : List Cond := u_ws RX5 TX5 1
theorem nmX5 : ∀ a, a < 1 → ∀ b, b < 1 → a ≠ b → (TX5 a).2.1 ≠ (TX5 b).2.1 := by decide +kernel
theorem tyX5_ok : ∀ k, k < 1 → parseFieldDescriptor (TX5 k).2.2.1 = some (tyX5 k) := by decide +kernel
abbrev cX5_init : ByteArray := prog_7_method_1_code
def yX5_init : MethodName := ⟨RX5, "<init>", "()V"⟩
abbrev cX5_enter : ByteArray := prog_7_method_2_code
def yX5_enter : MethodName := ⟨RX5, "enter", "(LMarkedSteps$Frame;LMarkedSteps$Cell;)V"⟩
abbrev cX5_leave : ByteArray := prog_7_method_3_code
def yX5_leave : MethodName := ⟨RX5, "leave", "(LMarkedSteps$Frame;LMarkedSteps$Cell;)Z"⟩
abbrev cX5_newHold : ByteArray := prog_7_method_4_code
def yX5_newHold : MethodName := ⟨RX5, "newHold", "(LMarkedSteps$Frame;LMarkedSteps$Cell;)LMarkedSteps$Hold;"⟩
abbrev cX5_leaveAll : ByteArray := prog_7_method_5_code
def yX5_leaveAll : MethodName := ⟨RX5, "leaveAll", "(LMarkedSteps$Frame;)V"⟩
def RX6 : String := "MarkedSteps$Purse"
def TX6 : u_T := fun k => match k with
  | 0 => ("MarkedSteps$Purse", "prices", "[I", true)
  | 1 => ("MarkedSteps$Purse", "counts", "[I", true)
  | 2 => ("MarkedSteps$Purse", "budget", "I", false)
  | _ => ("MarkedSteps$Purse", "house", "I", false)
def tyX6 : Nat → FieldType := fun k => match k with
  | 0 => .array .int
  | 1 => .array .int
  | 2 => .int
  | _ => .int
abbrev wsX60 : List Cond := u_ws RX6 TX6 4
theorem nmX6 : ∀ a, a < 4 → ∀ b, b < 4 → a ≠ b → (TX6 a).2.1 ≠ (TX6 b).2.1 := by decide +kernel
theorem tyX6_ok : ∀ k, k < 4 → parseFieldDescriptor (TX6 k).2.2.1 = some (tyX6 k) := by decide +kernel
abbrev cX6_init : ByteArray := prog_8_method_1_code
def yX6_init : MethodName := ⟨RX6, "<init>", "()V"⟩
abbrev cX6_open : ByteArray := prog_8_method_2_code
def yX6_open : MethodName := ⟨RX6, "open", "(I)V"⟩
abbrev cX6_takes : ByteArray := prog_8_method_3_code
def yX6_takes : MethodName := ⟨RX6, "takes", "(J)Z"⟩
abbrev cX6_paysFor : ByteArray := prog_8_method_4_code
def yX6_paysFor : MethodName := ⟨RX6, "paysFor", "(I)Z"⟩
abbrev cX6_paysForRow : ByteArray := prog_8_method_5_code
def yX6_paysForRow : MethodName := ⟨RX6, "paysForRow", "(I)Z"⟩
def RX7 : String := "MarkedSteps$Row"
def TX7 : u_T := fun k => match k with
  | 0 => ("MarkedSteps$Row", "lane", "I", true)
  | 1 => ("MarkedSteps$Row", "size", "I", true)
  | 2 => ("MarkedSteps$Row", "numbers", "[I", true)
  | _ => ("MarkedSteps$Row", "rows", "[LMarkedSteps$Row;", true)
def tyX7 : Nat → FieldType := fun k => match k with
  | 0 => .int
  | 1 => .int
  | 2 => .array .int
  | _ => .array (.object "MarkedSteps$Row")
abbrev wsX70 : List Cond := u_ws RX7 TX7 4
theorem nmX7 : ∀ a, a < 4 → ∀ b, b < 4 → a ≠ b → (TX7 a).2.1 ≠ (TX7 b).2.1 := by decide +kernel
theorem tyX7_ok : ∀ k, k < 4 → parseFieldDescriptor (TX7 k).2.2.1 = some (tyX7 k) := by decide +kernel
abbrev cX7_init : ByteArray := prog_9_method_1_code
def yX7_init : MethodName := ⟨RX7, "<init>", "(II)V"⟩
abbrev cX7_lacksCell : ByteArray := prog_9_method_2_code
def yX7_lacksCell : MethodName := ⟨RX7, "lacksCell", "(I)Z"⟩
abbrev cX7_narrowed : ByteArray := prog_9_method_3_code
def yX7_narrowed : MethodName := ⟨RX7, "narrowed", "(I)I"⟩
abbrev cX7_misfitInCell : ByteArray := prog_9_method_4_code
def yX7_misfitInCell : MethodName := ⟨RX7, "misfitInCell", "(LMarkedSteps$Slot;)I"⟩
abbrev cX7_copyFrom : ByteArray := prog_9_method_5_code
def yX7_copyFrom : MethodName := ⟨RX7, "copyFrom", "(LMarkedSteps$Slot;I)V"⟩
abbrev cX7_copyTo : ByteArray := prog_9_method_6_code
def yX7_copyTo : MethodName := ⟨RX7, "copyTo", "(LMarkedSteps$Slot;I)V"⟩
def RX8 : String := "MarkedSteps$Slot"
def TX8 : u_T := fun k => match k with
  | 0 => ("MarkedSteps$Slot", "kind", "I", false)
  | 1 => ("MarkedSteps$Slot", "number", "I", false)
  | 2 => ("MarkedSteps$Slot", "cell", "LMarkedSteps$Cell;", false)
  | _ => ("MarkedSteps$Slot", "row", "LMarkedSteps$Row;", false)
def tyX8 : Nat → FieldType := fun k => match k with
  | 0 => .int
  | 1 => .int
  | 2 => .object "MarkedSteps$Cell"
  | _ => .object "MarkedSteps$Row"
abbrev wsX80 : List Cond := u_ws RX8 TX8 4
theorem nmX8 : ∀ a, a < 4 → ∀ b, b < 4 → a ≠ b → (TX8 a).2.1 ≠ (TX8 b).2.1 := by decide +kernel
theorem tyX8_ok : ∀ k, k < 4 → parseFieldDescriptor (TX8 k).2.2.1 = some (tyX8 k) := by decide +kernel
abbrev cX8_init : ByteArray := prog_10_method_1_code
def yX8_init : MethodName := ⟨RX8, "<init>", "()V"⟩
abbrev cX8_becomeNothing : ByteArray := prog_10_method_2_code
def yX8_becomeNothing : MethodName := ⟨RX8, "becomeNothing", "()V"⟩
abbrev cX8_becomeNumber : ByteArray := prog_10_method_3_code
def yX8_becomeNumber : MethodName := ⟨RX8, "becomeNumber", "(I)V"⟩
abbrev cX8_becomeCell : ByteArray := prog_10_method_4_code
def yX8_becomeCell : MethodName := ⟨RX8, "becomeCell", "(LMarkedSteps$Cell;)V"⟩
abbrev cX8_becomeRow : ByteArray := prog_10_method_5_code
def yX8_becomeRow : MethodName := ⟨RX8, "becomeRow", "(LMarkedSteps$Row;)V"⟩
abbrev cX8_copy : ByteArray := prog_10_method_6_code
def yX8_copy : MethodName := ⟨RX8, "copy", "(LMarkedSteps$Slot;)V"⟩
abbrev cX8_isNothing : ByteArray := prog_10_method_7_code
def yX8_isNothing : MethodName := ⟨RX8, "isNothing", "()Z"⟩
abbrev cX8_isOf : ByteArray := prog_10_method_8_code
def yX8_isOf : MethodName := ⟨RX8, "isOf", "(I)Z"⟩
abbrev cX8_isSameAs : ByteArray := prog_10_method_9_code
def yX8_isSameAs : MethodName := ⟨RX8, "isSameAs", "(LMarkedSteps$Slot;)Z"⟩
abbrev cX8_measure : ByteArray := prog_10_method_10_code
def yX8_measure : MethodName := ⟨RX8, "measure", "()I"⟩
abbrev cX8_misfit : ByteArray := prog_10_method_11_code
def yX8_misfit : MethodName := ⟨RX8, "misfit", "()I"⟩
abbrev cX8_misfitAsNumber : ByteArray := prog_10_method_12_code
def yX8_misfitAsNumber : MethodName := ⟨RX8, "misfitAsNumber", "()I"⟩
def RX9 : String := "MarkedSteps$Verifier"
def TX9 : u_T := fun k => match k with
  | 0 => ("MarkedSteps$Verifier", "made", "[I", true)
  | _ => ("MarkedSteps$Verifier", "changed", "Z", false)
def tyX9 : Nat → FieldType := fun k => match k with
  | 0 => .array .int
  | _ => .boolean
abbrev wsX90 : List Cond := u_ws RX9 TX9 2
theorem nmX9 : ∀ a, a < 2 → ∀ b, b < 2 → a ≠ b → (TX9 a).2.1 ≠ (TX9 b).2.1 := by decide +kernel
theorem tyX9_ok : ∀ k, k < 2 → parseFieldDescriptor (TX9 k).2.2.1 = some (tyX9 k) := by decide +kernel
abbrev cX9_init : ByteArray := prog_11_method_1_code
def yX9_init : MethodName := ⟨RX9, "<init>", "()V"⟩
abbrev cX9_leastActThatLooksAtUnset : ByteArray := prog_11_method_2_code
def yX9_leastActThatLooksAtUnset : MethodName := ⟨RX9, "leastActThatLooksAtUnset", "(LMarkedSteps$Machine;LMarkedSteps$Member;)I"⟩
abbrev cX9_passOver : ByteArray := prog_11_method_3_code
def yX9_passOver : MethodName := ⟨RX9, "passOver", "(LMarkedSteps$Member;)V"⟩
abbrev cX9_goOn : ByteArray := prog_11_method_4_code
def yX9_goOn : MethodName := ⟨RX9, "goOn", "(LMarkedSteps$Member;I)V"⟩
abbrev cX9_goToHandlers : ByteArray := prog_11_method_5_code
def yX9_goToHandlers : MethodName := ⟨RX9, "goToHandlers", "(LMarkedSteps$Member;I)V"⟩
abbrev cX9_comeTo : ByteArray := prog_11_method_6_code
def yX9_comeTo : MethodName := ⟨RX9, "comeTo", "(LMarkedSteps$Member;II)V"⟩
abbrev cX9_lookedAt : ByteArray := prog_11_method_7_code
def yX9_lookedAt : MethodName := ⟨RX9, "lookedAt", "(LMarkedSteps$Machine;LMarkedSteps$Member;I)I"⟩
abbrev cX9_passedOn : ByteArray := prog_11_method_8_code
def yX9_passedOn : MethodName := ⟨RX9, "passedOn", "(II)I"⟩
def RX10 : String := "MarkedSteps"
def TX10 : u_T := fun k => match k with
  | 0 => ("MarkedSteps", "machine", "LMarkedSteps$Machine;", true)
  | 1 => ("MarkedSteps", "verifier", "LMarkedSteps$Verifier;", true)
  | _ => ("MarkedSteps", "arguments", "[LMarkedSteps$Slot;", true)
def tyX10 : Nat → FieldType := fun k => match k with
  | 0 => .object "MarkedSteps$Machine"
  | 1 => .object "MarkedSteps$Verifier"
  | _ => .array (.object "MarkedSteps$Slot")
abbrev wsX100 : List Cond := u_ws RX10 TX10 3
theorem nmX10 : ∀ a, a < 3 → ∀ b, b < 3 → a ≠ b → (TX10 a).2.1 ≠ (TX10 b).2.1 := by decide +kernel
theorem tyX10_ok : ∀ k, k < 3 → parseFieldDescriptor (TX10 k).2.2.1 = some (tyX10 k) := by decide +kernel
abbrev cX10_init : ByteArray := prog_1_method_1_code
def yX10_init : MethodName := ⟨RX10, "<init>", "()V"⟩
abbrev cX10_member : ByteArray := prog_1_method_2_code
def yX10_member : MethodName := ⟨RX10, "member", "(I)I"⟩
abbrev cX10_act : ByteArray := prog_1_method_3_code
def yX10_act : MethodName := ⟨RX10, "act", "(IIIII)I"⟩
abbrev cX10_handler : ByteArray := prog_1_method_4_code
def yX10_handler : MethodName := ⟨RX10, "handler", "(IIIII)I"⟩
abbrev cX10_cut : ByteArray := prog_1_method_5_code
def yX10_cut : MethodName := ⟨RX10, "cut", "(I)I"⟩
abbrev cX10_price : ByteArray := prog_1_method_6_code
def yX10_price : MethodName := ⟨RX10, "price", "(II)I"⟩
abbrev cX10_verify : ByteArray := prog_1_method_7_code
def yX10_verify : MethodName := ⟨RX10, "verify", "(I)I"⟩
abbrev cX10_info : ByteArray := prog_1_method_8_code
def yX10_info : MethodName := ⟨RX10, "info", "(II)I"⟩
abbrev cX10_set : ByteArray := prog_1_method_9_code
def yX10_set : MethodName := ⟨RX10, "set", "(II)I"⟩
abbrev cX10_plan : ByteArray := prog_1_method_10_code
def yX10_plan : MethodName := ⟨RX10, "plan", "(I)I"⟩
abbrev cX10_argument : ByteArray := prog_1_method_11_code
def yX10_argument : MethodName := ⟨RX10, "argument", "(III)I"⟩
abbrev cX10_run : ByteArray := prog_1_method_12_code
def yX10_run : MethodName := ⟨RX10, "run", "(II)I"⟩
abbrev cX10_result : ByteArray := prog_1_method_13_code
def yX10_result : MethodName := ⟨RX10, "result", "(I)I"⟩
abbrev cX10_into : ByteArray := prog_1_method_14_code
def yX10_into : MethodName := ⟨RX10, "into", "(I)I"⟩
abbrev cX10_cell : ByteArray := prog_1_method_15_code
def yX10_cell : MethodName := ⟨RX10, "cell", "(I)I"⟩
abbrev cX10_counted : ByteArray := prog_1_method_16_code
def yX10_counted : MethodName := ⟨RX10, "counted", "(I)I"⟩
abbrev cX10_trace : ByteArray := prog_1_method_17_code
def yX10_trace : MethodName := ⟨RX10, "trace", "(I)I"⟩
abbrev cX10_left : ByteArray := prog_1_method_18_code
def yX10_left : MethodName := ⟨RX10, "left", "()I"⟩
abbrev cX10_walk : ByteArray := prog_1_method_19_code
def yX10_walk : MethodName := ⟨RX10, "walk", "(II)I"⟩
abbrev cX10_step : ByteArray := prog_1_method_20_code
def yX10_step : MethodName := ⟨RX10, "step", "(I)I"⟩
abbrev cX10_frame : ByteArray := prog_1_method_21_code
def yX10_frame : MethodName := ⟨RX10, "frame", "(I)I"⟩
abbrev cX10_register : ByteArray := prog_1_method_22_code
def yX10_register : MethodName := ⟨RX10, "register", "(II)I"⟩
abbrev cX10_drop : ByteArray := prog_1_method_23_code
def yX10_drop : MethodName := ⟨RX10, "drop", "()I"⟩
abbrev cX10_told : ByteArray := prog_1_method_24_code
def yX10_told : MethodName := ⟨RX10, "told", "(I)I"⟩
abbrev cX10_refusalToBegin : ByteArray := prog_1_method_25_code
def yX10_refusalToBegin : MethodName := ⟨RX10, "refusalToBegin", "(II)I"⟩
abbrev cX10_isOutside : ByteArray := prog_1_method_26_code
def yX10_isOutside : MethodName := ⟨RX10, "isOutside", "(III)Z"⟩
abbrev cX10_namesWrongRegister : ByteArray := prog_1_method_27_code
def yX10_namesWrongRegister : MethodName := ⟨RX10, "namesWrongRegister", "(IIII)Z"⟩
abbrev cX10_namesWrongNumber : ByteArray := prog_1_method_28_code
def yX10_namesWrongNumber : MethodName := ⟨RX10, "namesWrongNumber", "(IIII)Z"⟩
def RX11 : String := "MarkedStepsModel"
def TX11 : u_T := fun k => match k with
  | 0 => ("MarkedStepsModel", "members", "I", false)
  | 1 => ("MarkedStepsModel", "wanted", "[I", true)
  | 2 => ("MarkedStepsModel", "acts", "[I", true)
  | 3 => ("MarkedStepsModel", "code", "[I", true)
  | 4 => ("MarkedStepsModel", "handlers", "[I", true)
  | 5 => ("MarkedStepsModel", "catching", "[I", true)
  | 6 => ("MarkedStepsModel", "begun", "[I", true)
  | 7 => ("MarkedStepsModel", "price", "[I", true)
  | 8 => ("MarkedStepsModel", "isWalk", "Z", false)
  | 9 => ("MarkedStepsModel", "unset", "[I", true)
  | 10 => ("MarkedStepsModel", "spreads", "Z", false)
  | 11 => ("MarkedStepsModel", "plan", "[I", true)
  | 12 => ("MarkedStepsModel", "planWas", "[I", true)
  | 13 => ("MarkedStepsModel", "argKind", "[I", true)
  | 14 => ("MarkedStepsModel", "argValue", "[I", true)
  | 15 => ("MarkedStepsModel", "gaveKind", "I", false)
  | 16 => ("MarkedStepsModel", "gave", "I", false)
  | 17 => ("MarkedStepsModel", "cells", "I", false)
  | 18 => ("MarkedStepsModel", "sort", "[I", true)
  | 19 => ("MarkedStepsModel", "v", "[I", true)
  | 20 => ("MarkedStepsModel", "nextKind", "[I", true)
  | 21 => ("MarkedStepsModel", "nextValue", "[I", true)
  | 22 => ("MarkedStepsModel", "holdings", "[I", true)
  | 23 => ("MarkedStepsModel", "rows", "I", false)
  | 24 => ("MarkedStepsModel", "laneOf", "[I", true)
  | 25 => ("MarkedStepsModel", "begins", "[I", true)
  | 26 => ("MarkedStepsModel", "size", "[I", true)
  | 27 => ("MarkedStepsModel", "content", "[I", true)
  | 28 => ("MarkedStepsModel", "contents", "I", false)
  | 29 => ("MarkedStepsModel", "frames", "I", false)
  | 30 => ("MarkedStepsModel", "running", "[I", true)
  | 31 => ("MarkedStepsModel", "next", "[I", true)
  | 32 => ("MarkedStepsModel", "givesTo", "[I", true)
  | 33 => ("MarkedStepsModel", "regKind", "[I", true)
  | 34 => ("MarkedStepsModel", "regValue", "[I", true)
  | 35 => ("MarkedStepsModel", "holds", "[I", true)
  | 36 => ("MarkedStepsModel", "heldBy", "[I", true)
  | 37 => ("MarkedStepsModel", "budget", "I", false)
  | 38 => ("MarkedStepsModel", "left", "I", false)
  | 39 => ("MarkedStepsModel", "counted", "[I", true)
  | 40 => ("MarkedStepsModel", "trace", "[I", true)
  | 41 => ("MarkedStepsModel", "traced", "I", false)
  | 42 => ("MarkedStepsModel", "number", "I", false)
  | 43 => ("MarkedStepsModel", "told", "[I", true)
  | 44 => ("MarkedStepsModel", "over", "I", false)
  | 45 => ("MarkedStepsModel", "base", "I", false)
  | 46 => ("MarkedStepsModel", "a", "I", false)
  | 47 => ("MarkedStepsModel", "b", "I", false)
  | _ => ("MarkedStepsModel", "c", "I", false)
def tyX11 : Nat → FieldType := fun k => match k with
  | 0 => .int
  | 1 => .array .int
  | 2 => .array .int
  | 3 => .array .int
  | 4 => .array .int
  | 5 => .array .int
  | 6 => .array .int
  | 7 => .array .int
  | 8 => .boolean
  | 9 => .array .int
  | 10 => .boolean
  | 11 => .array .int
  | 12 => .array .int
  | 13 => .array .int
  | 14 => .array .int
  | 15 => .int
  | 16 => .int
  | 17 => .int
  | 18 => .array .int
  | 19 => .array .int
  | 20 => .array .int
  | 21 => .array .int
  | 22 => .array .int
  | 23 => .int
  | 24 => .array .int
  | 25 => .array .int
  | 26 => .array .int
  | 27 => .array .int
  | 28 => .int
  | 29 => .int
  | 30 => .array .int
  | 31 => .array .int
  | 32 => .array .int
  | 33 => .array .int
  | 34 => .array .int
  | 35 => .array .int
  | 36 => .array .int
  | 37 => .int
  | 38 => .int
  | 39 => .array .int
  | 40 => .array .int
  | 41 => .int
  | 42 => .int
  | 43 => .array .int
  | 44 => .int
  | 45 => .int
  | 46 => .int
  | 47 => .int
  | _ => .int
abbrev wsX110 : List Cond := u_ws RX11 TX11 49
theorem nmX11 : ∀ a, a < 49 → ∀ b, b < 49 → a ≠ b → (TX11 a).2.1 ≠ (TX11 b).2.1 := by decide +kernel
theorem tyX11_ok : ∀ k, k < 49 → parseFieldDescriptor (TX11 k).2.2.1 = some (tyX11 k) := by decide +kernel
abbrev cX11_init : ByteArray := prog_13_method_1_code
def yX11_init : MethodName := ⟨RX11, "<init>", "()V"⟩
abbrev cX11_in : ByteArray := prog_13_method_2_code
def yX11_in : MethodName := ⟨RX11, "in", "(III)Z"⟩
abbrev cX11_isMember : ByteArray := prog_13_method_3_code
def yX11_isMember : MethodName := ⟨RX11, "isMember", "(I)Z"⟩
abbrev cX11_member : ByteArray := prog_13_method_4_code
def yX11_member : MethodName := ⟨RX11, "member", "(I)I"⟩
abbrev cX11_named : ByteArray := prog_13_method_5_code
def yX11_named : MethodName := ⟨RX11, "named", "(I)I"⟩
abbrev cX11_isGood : ByteArray := prog_13_method_6_code
def yX11_isGood : MethodName := ⟨RX11, "isGood", "(IIII)Z"⟩
abbrev cX11_act : ByteArray := prog_13_method_7_code
def yX11_act : MethodName := ⟨RX11, "act", "(IIIII)I"⟩
abbrev cX11_handler : ByteArray := prog_13_method_8_code
def yX11_handler : MethodName := ⟨RX11, "handler", "(IIIII)I"⟩
abbrev cX11_cut : ByteArray := prog_13_method_9_code
def yX11_cut : MethodName := ⟨RX11, "cut", "(I)I"⟩
abbrev cX11_price : ByteArray := prog_13_method_10_code
def yX11_price : MethodName := ⟨RX11, "price", "(II)I"⟩
abbrev cX11_comes : ByteArray := prog_13_method_11_code
def yX11_comes : MethodName := ⟨RX11, "comes", "(II)V"⟩
abbrev cX11_looked : ByteArray := prog_13_method_12_code
def yX11_looked : MethodName := ⟨RX11, "looked", "(I)I"⟩
abbrev cX11_makes : ByteArray := prog_13_method_13_code
def yX11_makes : MethodName := ⟨RX11, "makes", "(I)I"⟩
abbrev cX11_spread : ByteArray := prog_13_method_14_code
def yX11_spread : MethodName := ⟨RX11, "spread", "(II)V"⟩
abbrev cX11_verify : ByteArray := prog_13_method_15_code
def yX11_verify : MethodName := ⟨RX11, "verify", "(I)I"⟩
abbrev cX11_info : ByteArray := prog_13_method_16_code
def yX11_info : MethodName := ⟨RX11, "info", "(II)I"⟩
abbrev cX11_set : ByteArray := prog_13_method_17_code
def yX11_set : MethodName := ⟨RX11, "set", "(II)I"⟩
abbrev cX11_plan : ByteArray := prog_13_method_18_code
def yX11_plan : MethodName := ⟨RX11, "plan", "(I)I"⟩
abbrev cX11_argument : ByteArray := prog_13_method_19_code
def yX11_argument : MethodName := ⟨RX11, "argument", "(III)I"⟩
abbrev cX11_kindOf : ByteArray := prog_13_method_20_code
def yX11_kindOf : MethodName := ⟨RX11, "kindOf", "(II)I"⟩
abbrev cX11_toldOf : ByteArray := prog_13_method_21_code
def yX11_toldOf : MethodName := ⟨RX11, "toldOf", "(II)I"⟩
abbrev cX11_isOf : ByteArray := prog_13_method_22_code
def yX11_isOf : MethodName := ⟨RX11, "isOf", "(III)Z"⟩
abbrev cX11_pays : ByteArray := prog_13_method_23_code
def yX11_pays : MethodName := ⟨RX11, "pays", "(J)Z"⟩
abbrev cX11_traces : ByteArray := prog_13_method_24_code
def yX11_traces : MethodName := ⟨RX11, "traces", "(I)V"⟩
abbrev cX11_release : ByteArray := prog_13_method_25_code
def yX11_release : MethodName := ⟨RX11, "release", "(I)V"⟩
abbrev cX11_begins : ByteArray := prog_13_method_26_code
def yX11_begins : MethodName := ⟨RX11, "begins", "(II)Z"⟩
abbrev cX11_stops : ByteArray := prog_13_method_27_code
def yX11_stops : MethodName := ⟨RX11, "stops", "()V"⟩
abbrev cX11_gives : ByteArray := prog_13_method_28_code
def yX11_gives : MethodName := ⟨RX11, "gives", "(II)V"⟩
abbrev cX11_throwsIt : ByteArray := prog_13_method_29_code
def yX11_throwsIt : MethodName := ⟨RX11, "throwsIt", "(I)V"⟩
abbrev cX11_makes_ : ByteArray := prog_13_method_30_code
def yX11_makes_ : MethodName := ⟨RX11, "makes", "(II)V"⟩
abbrev cX11_against : ByteArray := prog_13_method_31_code
def yX11_against : MethodName := ⟨RX11, "against", "(II)I"⟩
abbrev cX11_value : ByteArray := prog_13_method_32_code
def yX11_value : MethodName := ⟨RX11, "value", "(I)I"⟩
abbrev cX11_againstBoth : ByteArray := prog_13_method_33_code
def yX11_againstBoth : MethodName := ⟨RX11, "againstBoth", "()I"⟩
abbrev cX11_reckon : ByteArray := prog_13_method_34_code
def yX11_reckon : MethodName := ⟨RX11, "reckon", "(I)I"⟩
abbrev cX11_goes : ByteArray := prog_13_method_35_code
def yX11_goes : MethodName := ⟨RX11, "goes", "(I)I"⟩
abbrev cX11_newRow : ByteArray := prog_13_method_36_code
def yX11_newRow : MethodName := ⟨RX11, "newRow", "()I"⟩
abbrev cX11_newCell : ByteArray := prog_13_method_37_code
def yX11_newCell : MethodName := ⟨RX11, "newCell", "()I"⟩
abbrev cX11_cut_ : ByteArray := prog_13_method_38_code
def yX11_cut_ : MethodName := ⟨RX11, "cut", "(II)I"⟩
abbrev cX11_put : ByteArray := prog_13_method_39_code
def yX11_put : MethodName := ⟨RX11, "put", "()I"⟩
abbrev cX11_get : ByteArray := prog_13_method_40_code
def yX11_get : MethodName := ⟨RX11, "get", "()I"⟩
abbrev cX11_field : ByteArray := prog_13_method_41_code
def yX11_field : MethodName := ⟨RX11, "field", "()I"⟩
abbrev cX11_fill : ByteArray := prog_13_method_42_code
def yX11_fill : MethodName := ⟨RX11, "fill", "()I"⟩
abbrev cX11_monitor : ByteArray := prog_13_method_43_code
def yX11_monitor : MethodName := ⟨RX11, "monitor", "(Z)I"⟩
abbrev cX11_call : ByteArray := prog_13_method_44_code
def yX11_call : MethodName := ⟨RX11, "call", "()I"⟩
abbrev cX11_note : ByteArray := prog_13_method_45_code
def yX11_note : MethodName := ⟨RX11, "note", "()I"⟩
abbrev cX11_ask : ByteArray := prog_13_method_46_code
def yX11_ask : MethodName := ⟨RX11, "ask", "()I"⟩
abbrev cX11_weigh : ByteArray := prog_13_method_47_code
def yX11_weigh : MethodName := ⟨RX11, "weigh", "()I"⟩
abbrev cX11_same : ByteArray := prog_13_method_48_code
def yX11_same : MethodName := ⟨RX11, "same", "()I"⟩
abbrev cX11_branch : ByteArray := prog_13_method_49_code
def yX11_branch : MethodName := ⟨RX11, "branch", "()I"⟩
abbrev cX11_length : ByteArray := prog_13_method_50_code
def yX11_length : MethodName := ⟨RX11, "length", "()I"⟩
abbrev cX11_does : ByteArray := prog_13_method_51_code
def yX11_does : MethodName := ⟨RX11, "does", "(I)I"⟩
abbrev cX11_settle : ByteArray := prog_13_method_52_code
def yX11_settle : MethodName := ⟨RX11, "settle", "()V"⟩
abbrev cX11_goOn : ByteArray := prog_13_method_53_code
def yX11_goOn : MethodName := ⟨RX11, "goOn", "()V"⟩
abbrev cX11_start : ByteArray := prog_13_method_54_code
def yX11_start : MethodName := ⟨RX11, "start", "(II)V"⟩
abbrev cX11_run : ByteArray := prog_13_method_55_code
def yX11_run : MethodName := ⟨RX11, "run", "(II)I"⟩
abbrev cX11_result : ByteArray := prog_13_method_56_code
def yX11_result : MethodName := ⟨RX11, "result", "(I)I"⟩
abbrev cX11_into : ByteArray := prog_13_method_57_code
def yX11_into : MethodName := ⟨RX11, "into", "(I)I"⟩
abbrev cX11_cell : ByteArray := prog_13_method_58_code
def yX11_cell : MethodName := ⟨RX11, "cell", "(I)I"⟩
abbrev cX11_counted : ByteArray := prog_13_method_59_code
def yX11_counted : MethodName := ⟨RX11, "counted", "(I)I"⟩
abbrev cX11_trace : ByteArray := prog_13_method_60_code
def yX11_trace : MethodName := ⟨RX11, "trace", "(I)I"⟩
abbrev cX11_left : ByteArray := prog_13_method_61_code
def yX11_left : MethodName := ⟨RX11, "left", "()I"⟩
abbrev cX11_walk : ByteArray := prog_13_method_62_code
def yX11_walk : MethodName := ⟨RX11, "walk", "(II)I"⟩
abbrev cX11_step : ByteArray := prog_13_method_63_code
def yX11_step : MethodName := ⟨RX11, "step", "(I)I"⟩
abbrev cX11_frame : ByteArray := prog_13_method_64_code
def yX11_frame : MethodName := ⟨RX11, "frame", "(I)I"⟩
abbrev cX11_register : ByteArray := prog_13_method_65_code
def yX11_register : MethodName := ⟨RX11, "register", "(II)I"⟩
abbrev cX11_drop : ByteArray := prog_13_method_66_code
def yX11_drop : MethodName := ⟨RX11, "drop", "()I"⟩
abbrev cX11_told : ByteArray := prog_13_method_67_code
def yX11_told : MethodName := ⟨RX11, "told", "(I)I"⟩
