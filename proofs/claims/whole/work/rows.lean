section
-- ===== PART A: goes FIRST, ahead of the names: the tables' words, and 'selects' of the private methods out of them =====
/-- a private method of a class that the tables say can be made, by its rows of tables_1 -/
def lw_okq (q : MethodName × Nat) : Prop := (q.1.cls ≠ "java/lang/invoke/MethodHandle" ∧ q.1.cls ≠ "java/lang/invoke/VarHandle") ∧ Cond.instantiable q.1.cls q.2 ∈ tables_1 ∧ Cond.privateMethod q.1 ∈ tables_1 ∧ Cond.instanceMethod q.1 ∈ tables_1
theorem lw_p0 : lw_okq (⟨"ImageBaker", "fillWaiting", "()I"⟩, 17) := ⟨⟨by decide +kernel, by decide +kernel⟩, List.mem_of_getElem? (i := 14) (by decide +kernel), List.mem_of_getElem? (i := 113) (by decide +kernel), List.mem_of_getElem? (i := 114) (by decide +kernel)⟩
theorem lw_p1 : lw_okq (⟨"ImageBaker", "mustRenew", "(LImageBaker$Machine;)Z"⟩, 17) := ⟨⟨by decide +kernel, by decide +kernel⟩, List.mem_of_getElem? (i := 14) (by decide +kernel), List.mem_of_getElem? (i := 117) (by decide +kernel), List.mem_of_getElem? (i := 118) (by decide +kernel)⟩
theorem lw_p2 : lw_okq (⟨"ImageBaker", "isTooOld", "(LImageBaker$Bake;)Z"⟩, 17) := ⟨⟨by decide +kernel, by decide +kernel⟩, List.mem_of_getElem? (i := 14) (by decide +kernel), List.mem_of_getElem? (i := 121) (by decide +kernel), List.mem_of_getElem? (i := 122) (by decide +kernel)⟩
theorem lw_p3 : lw_okq (⟨"ImageBaker", "bakeFor", "(LImageBaker$Image;II)LImageBaker$Bake;"⟩, 17) := ⟨⟨by decide +kernel, by decide +kernel⟩, List.mem_of_getElem? (i := 14) (by decide +kernel), List.mem_of_getElem? (i := 125) (by decide +kernel), List.mem_of_getElem? (i := 126) (by decide +kernel)⟩
theorem lw_p4 : lw_okq (⟨"ImageBaker", "canStart", "(LImageBaker$Bake;II)Z"⟩, 17) := ⟨⟨by decide +kernel, by decide +kernel⟩, List.mem_of_getElem? (i := 14) (by decide +kernel), List.mem_of_getElem? (i := 129) (by decide +kernel), List.mem_of_getElem? (i := 130) (by decide +kernel)⟩
theorem lw_p5 : lw_okq (⟨"ImageBaker$Bake", "firstDayAt", "(I)I"⟩, 9) := ⟨⟨by decide +kernel, by decide +kernel⟩, List.mem_of_getElem? (i := 135) (by decide +kernel), List.mem_of_getElem? (i := 133) (by decide +kernel), List.mem_of_getElem? (i := 134) (by decide +kernel)⟩
theorem lw_p6 : lw_okq (⟨"ImageBaker", "insertWaiting", "(LImageBaker$Machine;I)V"⟩, 17) := ⟨⟨by decide +kernel, by decide +kernel⟩, List.mem_of_getElem? (i := 14) (by decide +kernel), List.mem_of_getElem? (i := 141) (by decide +kernel), List.mem_of_getElem? (i := 142) (by decide +kernel)⟩
theorem lw_p7 : lw_okq (⟨"ImageBaker", "imageAt", "(I)LImageBaker$Image;"⟩, 17) := ⟨⟨by decide +kernel, by decide +kernel⟩, List.mem_of_getElem? (i := 14) (by decide +kernel), List.mem_of_getElem? (i := 157) (by decide +kernel), List.mem_of_getElem? (i := 158) (by decide +kernel)⟩
theorem lw_p8 : lw_okq (⟨"java/lang/Throwable", "fillInStackTrace", "(I)Ljava/lang/Throwable;"⟩, 6) := ⟨⟨by decide +kernel, by decide +kernel⟩, List.mem_of_getElem? (i := 199) (by decide +kernel), List.mem_of_getElem? (i := 197) (by decide +kernel), List.mem_of_getElem? (i := 198) (by decide +kernel)⟩
theorem lw_p9 : lw_okq (⟨"ImageBaker$Image", "takesStep", "(I)Z"⟩, 6) := ⟨⟨by decide +kernel, by decide +kernel⟩, List.mem_of_getElem? (i := 244) (by decide +kernel), List.mem_of_getElem? (i := 297) (by decide +kernel), List.mem_of_getElem? (i := 298) (by decide +kernel)⟩
theorem lw_p10 : lw_okq (⟨"ImageBaker", "needsBake", "(LImageBaker$Image;)Z"⟩, 17) := ⟨⟨by decide +kernel, by decide +kernel⟩, List.mem_of_getElem? (i := 14) (by decide +kernel), List.mem_of_getElem? (i := 318) (by decide +kernel), List.mem_of_getElem? (i := 319) (by decide +kernel)⟩
theorem lw_p11 : lw_okq (⟨"ImageBaker", "topFrom", "(ILImageBaker$Image;)I"⟩, 17) := ⟨⟨by decide +kernel, by decide +kernel⟩, List.mem_of_getElem? (i := 14) (by decide +kernel), List.mem_of_getElem? (i := 325) (by decide +kernel), List.mem_of_getElem? (i := 326) (by decide +kernel)⟩
theorem lw_p12 : lw_okq (⟨"ImageBaker$Layers", "find", "(III)I"⟩, 4) := ⟨⟨by decide +kernel, by decide +kernel⟩, List.mem_of_getElem? (i := 22) (by decide +kernel), List.mem_of_getElem? (i := 330) (by decide +kernel), List.mem_of_getElem? (i := 331) (by decide +kernel)⟩
theorem lw_p13 : lw_okq (⟨"ImageBaker$Layers", "isOf", "(III)Z"⟩, 4) := ⟨⟨by decide +kernel, by decide +kernel⟩, List.mem_of_getElem? (i := 22) (by decide +kernel), List.mem_of_getElem? (i := 334) (by decide +kernel), List.mem_of_getElem? (i := 335) (by decide +kernel)⟩
theorem lw_p14 : lw_okq (⟨"ImageBaker", "bakeIfNeeded", "(LImageBaker$Image;)V"⟩, 17) := ⟨⟨by decide +kernel, by decide +kernel⟩, List.mem_of_getElem? (i := 14) (by decide +kernel), List.mem_of_getElem? (i := 340) (by decide +kernel), List.mem_of_getElem? (i := 341) (by decide +kernel)⟩
theorem lw_p15 : lw_okq (⟨"ImageBaker", "makeTopFrom", "(ILImageBaker$Image;)I"⟩, 17) := ⟨⟨by decide +kernel, by decide +kernel⟩, List.mem_of_getElem? (i := 14) (by decide +kernel), List.mem_of_getElem? (i := 344) (by decide +kernel), List.mem_of_getElem? (i := 345) (by decide +kernel)⟩
def lw_privs_1 : List (MethodName × Nat) := [(⟨"ImageBaker", "fillWaiting", "()I"⟩, 17), (⟨"ImageBaker", "mustRenew", "(LImageBaker$Machine;)Z"⟩, 17), (⟨"ImageBaker", "isTooOld", "(LImageBaker$Bake;)Z"⟩, 17), (⟨"ImageBaker", "bakeFor", "(LImageBaker$Image;II)LImageBaker$Bake;"⟩, 17), (⟨"ImageBaker", "canStart", "(LImageBaker$Bake;II)Z"⟩, 17), (⟨"ImageBaker$Bake", "firstDayAt", "(I)I"⟩, 9), (⟨"ImageBaker", "insertWaiting", "(LImageBaker$Machine;I)V"⟩, 17), (⟨"ImageBaker", "imageAt", "(I)LImageBaker$Image;"⟩, 17), (⟨"java/lang/Throwable", "fillInStackTrace", "(I)Ljava/lang/Throwable;"⟩, 6), (⟨"ImageBaker$Image", "takesStep", "(I)Z"⟩, 6), (⟨"ImageBaker", "needsBake", "(LImageBaker$Image;)Z"⟩, 17), (⟨"ImageBaker", "topFrom", "(ILImageBaker$Image;)I"⟩, 17), (⟨"ImageBaker$Layers", "find", "(III)I"⟩, 4), (⟨"ImageBaker$Layers", "isOf", "(III)Z"⟩, 4), (⟨"ImageBaker", "bakeIfNeeded", "(LImageBaker$Image;)V"⟩, 17), (⟨"ImageBaker", "makeTopFrom", "(ILImageBaker$Image;)I"⟩, 17)]
theorem lw_r1 : ∀ q ∈ lw_privs_1, lw_okq q := List.forall_mem_cons.mpr ⟨lw_p0, List.forall_mem_cons.mpr ⟨lw_p1, List.forall_mem_cons.mpr ⟨lw_p2, List.forall_mem_cons.mpr ⟨lw_p3, List.forall_mem_cons.mpr ⟨lw_p4, List.forall_mem_cons.mpr ⟨lw_p5, List.forall_mem_cons.mpr ⟨lw_p6, List.forall_mem_cons.mpr ⟨lw_p7, List.forall_mem_cons.mpr ⟨lw_p8, List.forall_mem_cons.mpr ⟨lw_p9, List.forall_mem_cons.mpr ⟨lw_p10, List.forall_mem_cons.mpr ⟨lw_p11, List.forall_mem_cons.mpr ⟨lw_p12, List.forall_mem_cons.mpr ⟨lw_p13, List.forall_mem_cons.mpr ⟨lw_p14, List.forall_mem_cons.mpr ⟨lw_p15, fun _ h => absurd h List.not_mem_nil⟩⟩⟩⟩⟩⟩⟩⟩⟩⟩⟩⟩⟩⟩⟩⟩
theorem lw_p16 : lw_okq (⟨"ImageBaker$Layers", "findOrMake", "(III)I"⟩, 4) := ⟨⟨by decide +kernel, by decide +kernel⟩, List.mem_of_getElem? (i := 22) (by decide +kernel), List.mem_of_getElem? (i := 348) (by decide +kernel), List.mem_of_getElem? (i := 349) (by decide +kernel)⟩
theorem lw_p17 : lw_okq (⟨"ImageBaker", "countBakesToCome", "()I"⟩, 17) := ⟨⟨by decide +kernel, by decide +kernel⟩, List.mem_of_getElem? (i := 14) (by decide +kernel), List.mem_of_getElem? (i := 399) (by decide +kernel), List.mem_of_getElem? (i := 400) (by decide +kernel)⟩
theorem lw_p18 : lw_okq (⟨"ImageBaker", "fillLine", "()V"⟩, 17) := ⟨⟨by decide +kernel, by decide +kernel⟩, List.mem_of_getElem? (i := 14) (by decide +kernel), List.mem_of_getElem? (i := 404) (by decide +kernel), List.mem_of_getElem? (i := 405) (by decide +kernel)⟩
theorem lw_p19 : lw_okq (⟨"ImageBaker", "lineUpChildren", "(LImageBaker$Image;I)I"⟩, 17) := ⟨⟨by decide +kernel, by decide +kernel⟩, List.mem_of_getElem? (i := 14) (by decide +kernel), List.mem_of_getElem? (i := 408) (by decide +kernel), List.mem_of_getElem? (i := 409) (by decide +kernel)⟩
theorem lw_p20 : lw_okq (⟨"ImageBaker", "isMadeAsNow", "(LImageBaker$Image;)Z"⟩, 17) := ⟨⟨by decide +kernel, by decide +kernel⟩, List.mem_of_getElem? (i := 14) (by decide +kernel), List.mem_of_getElem? (i := 426) (by decide +kernel), List.mem_of_getElem? (i := 427) (by decide +kernel)⟩
theorem lw_p21 : lw_okq (⟨"ImageBaker$Layers", "fillChain", "(I[I)I"⟩, 4) := ⟨⟨by decide +kernel, by decide +kernel⟩, List.mem_of_getElem? (i := 22) (by decide +kernel), List.mem_of_getElem? (i := 430) (by decide +kernel), List.mem_of_getElem? (i := 431) (by decide +kernel)⟩
theorem lw_p22 : lw_okq (⟨"ImageBaker", "fillForefathers", "(LImageBaker$Image;)I"⟩, 17) := ⟨⟨by decide +kernel, by decide +kernel⟩, List.mem_of_getElem? (i := 14) (by decide +kernel), List.mem_of_getElem? (i := 434) (by decide +kernel), List.mem_of_getElem? (i := 435) (by decide +kernel)⟩
theorem lw_p23 : lw_okq (⟨"ImageBaker", "followSteps", "(LImageBaker$Image;II)I"⟩, 17) := ⟨⟨by decide +kernel, by decide +kernel⟩, List.mem_of_getElem? (i := 14) (by decide +kernel), List.mem_of_getElem? (i := 438) (by decide +kernel), List.mem_of_getElem? (i := 439) (by decide +kernel)⟩
theorem lw_p24 : lw_okq (⟨"ImageBaker", "bakeAt", "(I)LImageBaker$Bake;"⟩, 17) := ⟨⟨by decide +kernel, by decide +kernel⟩, List.mem_of_getElem? (i := 14) (by decide +kernel), List.mem_of_getElem? (i := 457) (by decide +kernel), List.mem_of_getElem? (i := 458) (by decide +kernel)⟩
theorem lw_p25 : lw_okq (⟨"ImageBaker", "countMachinesFrom", "(LImageBaker$Bake;)I"⟩, 17) := ⟨⟨by decide +kernel, by decide +kernel⟩, List.mem_of_getElem? (i := 14) (by decide +kernel), List.mem_of_getElem? (i := 478) (by decide +kernel), List.mem_of_getElem? (i := 479) (by decide +kernel)⟩
theorem lw_p26 : lw_okq (⟨"ImageBaker$Bake", "arriveAt", "(II)V"⟩, 9) := ⟨⟨by decide +kernel, by decide +kernel⟩, List.mem_of_getElem? (i := 135) (by decide +kernel), List.mem_of_getElem? (i := 499) (by decide +kernel), List.mem_of_getElem? (i := 500) (by decide +kernel)⟩
theorem lw_p27 : lw_okq (⟨"ImageBaker", "mustGo", "(LImageBaker$Bake;)Z"⟩, 17) := ⟨⟨by decide +kernel, by decide +kernel⟩, List.mem_of_getElem? (i := 14) (by decide +kernel), List.mem_of_getElem? (i := 520) (by decide +kernel), List.mem_of_getElem? (i := 521) (by decide +kernel)⟩
theorem lw_p28 : lw_okq (⟨"ImageBaker", "runningAt", "(I)LImageBaker$Machine;"⟩, 17) := ⟨⟨by decide +kernel, by decide +kernel⟩, List.mem_of_getElem? (i := 14) (by decide +kernel), List.mem_of_getElem? (i := 573) (by decide +kernel), List.mem_of_getElem? (i := 574) (by decide +kernel)⟩
theorem lw_p29 : lw_okq (⟨"ImageBaker", "machineAt", "(I)LImageBaker$Machine;"⟩, 17) := ⟨⟨by decide +kernel, by decide +kernel⟩, List.mem_of_getElem? (i := 14) (by decide +kernel), List.mem_of_getElem? (i := 577) (by decide +kernel), List.mem_of_getElem? (i := 578) (by decide +kernel)⟩
theorem lw_p30 : lw_okq (⟨"ImageBakerModel", "isFine", "(I)Z"⟩, 32) := ⟨⟨by decide +kernel, by decide +kernel⟩, List.mem_of_getElem? (i := 606) (by decide +kernel), List.mem_of_getElem? (i := 721) (by decide +kernel), List.mem_of_getElem? (i := 722) (by decide +kernel)⟩
theorem lw_p31 : lw_okq (⟨"ImageBakerModel", "isImage", "(I)Z"⟩, 32) := ⟨⟨by decide +kernel, by decide +kernel⟩, List.mem_of_getElem? (i := 606) (by decide +kernel), List.mem_of_getElem? (i := 729) (by decide +kernel), List.mem_of_getElem? (i := 730) (by decide +kernel)⟩
def lw_privs_2 : List (MethodName × Nat) := [(⟨"ImageBaker$Layers", "findOrMake", "(III)I"⟩, 4), (⟨"ImageBaker", "countBakesToCome", "()I"⟩, 17), (⟨"ImageBaker", "fillLine", "()V"⟩, 17), (⟨"ImageBaker", "lineUpChildren", "(LImageBaker$Image;I)I"⟩, 17), (⟨"ImageBaker", "isMadeAsNow", "(LImageBaker$Image;)Z"⟩, 17), (⟨"ImageBaker$Layers", "fillChain", "(I[I)I"⟩, 4), (⟨"ImageBaker", "fillForefathers", "(LImageBaker$Image;)I"⟩, 17), (⟨"ImageBaker", "followSteps", "(LImageBaker$Image;II)I"⟩, 17), (⟨"ImageBaker", "bakeAt", "(I)LImageBaker$Bake;"⟩, 17), (⟨"ImageBaker", "countMachinesFrom", "(LImageBaker$Bake;)I"⟩, 17), (⟨"ImageBaker$Bake", "arriveAt", "(II)V"⟩, 9), (⟨"ImageBaker", "mustGo", "(LImageBaker$Bake;)Z"⟩, 17), (⟨"ImageBaker", "runningAt", "(I)LImageBaker$Machine;"⟩, 17), (⟨"ImageBaker", "machineAt", "(I)LImageBaker$Machine;"⟩, 17), (⟨"ImageBakerModel", "isFine", "(I)Z"⟩, 32), (⟨"ImageBakerModel", "isImage", "(I)Z"⟩, 32)]
theorem lw_r2 : ∀ q ∈ lw_privs_2, lw_okq q := List.forall_mem_cons.mpr ⟨lw_p16, List.forall_mem_cons.mpr ⟨lw_p17, List.forall_mem_cons.mpr ⟨lw_p18, List.forall_mem_cons.mpr ⟨lw_p19, List.forall_mem_cons.mpr ⟨lw_p20, List.forall_mem_cons.mpr ⟨lw_p21, List.forall_mem_cons.mpr ⟨lw_p22, List.forall_mem_cons.mpr ⟨lw_p23, List.forall_mem_cons.mpr ⟨lw_p24, List.forall_mem_cons.mpr ⟨lw_p25, List.forall_mem_cons.mpr ⟨lw_p26, List.forall_mem_cons.mpr ⟨lw_p27, List.forall_mem_cons.mpr ⟨lw_p28, List.forall_mem_cons.mpr ⟨lw_p29, List.forall_mem_cons.mpr ⟨lw_p30, List.forall_mem_cons.mpr ⟨lw_p31, fun _ h => absurd h List.not_mem_nil⟩⟩⟩⟩⟩⟩⟩⟩⟩⟩⟩⟩⟩⟩⟩⟩
theorem lw_p32 : lw_okq (⟨"ImageBakerModel", "hasBase", "(I)Z"⟩, 32) := ⟨⟨by decide +kernel, by decide +kernel⟩, List.mem_of_getElem? (i := 606) (by decide +kernel), List.mem_of_getElem? (i := 741) (by decide +kernel), List.mem_of_getElem? (i := 742) (by decide +kernel)⟩
theorem lw_p33 : lw_okq (⟨"ImageBakerModel", "isAlike", "(I)Z"⟩, 32) := ⟨⟨by decide +kernel, by decide +kernel⟩, List.mem_of_getElem? (i := 606) (by decide +kernel), List.mem_of_getElem? (i := 745) (by decide +kernel), List.mem_of_getElem? (i := 746) (by decide +kernel)⟩
theorem lw_p34 : lw_okq (⟨"ImageBakerModel", "topNow", "(I)I"⟩, 32) := ⟨⟨by decide +kernel, by decide +kernel⟩, List.mem_of_getElem? (i := 606) (by decide +kernel), List.mem_of_getElem? (i := 749) (by decide +kernel), List.mem_of_getElem? (i := 750) (by decide +kernel)⟩
theorem lw_p35 : lw_okq (⟨"ImageBakerModel", "baseOf", "(I)I"⟩, 32) := ⟨⟨by decide +kernel, by decide +kernel⟩, List.mem_of_getElem? (i := 606) (by decide +kernel), List.mem_of_getElem? (i := 753) (by decide +kernel), List.mem_of_getElem? (i := 754) (by decide +kernel)⟩
theorem lw_p36 : lw_okq (⟨"ImageBakerModel", "find", "(III)I"⟩, 32) := ⟨⟨by decide +kernel, by decide +kernel⟩, List.mem_of_getElem? (i := 606) (by decide +kernel), List.mem_of_getElem? (i := 757) (by decide +kernel), List.mem_of_getElem? (i := 758) (by decide +kernel)⟩
theorem lw_p37 : lw_okq (⟨"ImageBakerModel", "makes", "(I)V"⟩, 32) := ⟨⟨by decide +kernel, by decide +kernel⟩, List.mem_of_getElem? (i := 606) (by decide +kernel), List.mem_of_getElem? (i := 761) (by decide +kernel), List.mem_of_getElem? (i := 762) (by decide +kernel)⟩
theorem lw_p38 : lw_okq (⟨"ImageBakerModel", "joins", "(II)I"⟩, 32) := ⟨⟨by decide +kernel, by decide +kernel⟩, List.mem_of_getElem? (i := 606) (by decide +kernel), List.mem_of_getElem? (i := 769) (by decide +kernel), List.mem_of_getElem? (i := 770) (by decide +kernel)⟩
theorem lw_p39 : lw_okq (⟨"ImageBakerModel", "isFreshNow", "(I)Z"⟩, 32) := ⟨⟨by decide +kernel, by decide +kernel⟩, List.mem_of_getElem? (i := 606) (by decide +kernel), List.mem_of_getElem? (i := 773) (by decide +kernel), List.mem_of_getElem? (i := 774) (by decide +kernel)⟩
theorem lw_p40 : lw_okq (⟨"ImageBakerModel", "isBake", "(I)Z"⟩, 32) := ⟨⟨by decide +kernel, by decide +kernel⟩, List.mem_of_getElem? (i := 606) (by decide +kernel), List.mem_of_getElem? (i := 801) (by decide +kernel), List.mem_of_getElem? (i := 802) (by decide +kernel)⟩
theorem lw_p41 : lw_okq (⟨"ImageBakerModel", "running", "(I)I"⟩, 32) := ⟨⟨by decide +kernel, by decide +kernel⟩, List.mem_of_getElem? (i := 606) (by decide +kernel), List.mem_of_getElem? (i := 813) (by decide +kernel), List.mem_of_getElem? (i := 814) (by decide +kernel)⟩
theorem lw_p42 : lw_okq (⟨"ImageBakerModel", "isTooOld", "(I)Z"⟩, 32) := ⟨⟨by decide +kernel, by decide +kernel⟩, List.mem_of_getElem? (i := 606) (by decide +kernel), List.mem_of_getElem? (i := 837) (by decide +kernel), List.mem_of_getElem? (i := 838) (by decide +kernel)⟩
theorem lw_p43 : lw_okq (⟨"ImageBakerModel", "bakeFor", "(III)I"⟩, 32) := ⟨⟨by decide +kernel, by decide +kernel⟩, List.mem_of_getElem? (i := 606) (by decide +kernel), List.mem_of_getElem? (i := 845) (by decide +kernel), List.mem_of_getElem? (i := 846) (by decide +kernel)⟩
theorem lw_p44 : lw_okq (⟨"ImageBakerModel", "isRunning", "(I)Z"⟩, 32) := ⟨⟨by decide +kernel, by decide +kernel⟩, List.mem_of_getElem? (i := 606) (by decide +kernel), List.mem_of_getElem? (i := 853) (by decide +kernel), List.mem_of_getElem? (i := 854) (by decide +kernel)⟩
theorem lw_p45 : lw_okq (⟨"ImageBakerModel", "next", "(I)I"⟩, 32) := ⟨⟨by decide +kernel, by decide +kernel⟩, List.mem_of_getElem? (i := 606) (by decide +kernel), List.mem_of_getElem? (i := 857) (by decide +kernel), List.mem_of_getElem? (i := 858) (by decide +kernel)⟩
theorem lw_p46 : lw_okq (⟨"ImageBakerModel", "isOld", "(I)Z"⟩, 32) := ⟨⟨by decide +kernel, by decide +kernel⟩, List.mem_of_getElem? (i := 606) (by decide +kernel), List.mem_of_getElem? (i := 873) (by decide +kernel), List.mem_of_getElem? (i := 874) (by decide +kernel)⟩
theorem lw_p47 : lw_okq (⟨"ImageBakerModel", "isAhead", "(II)Z"⟩, 32) := ⟨⟨by decide +kernel, by decide +kernel⟩, List.mem_of_getElem? (i := 606) (by decide +kernel), List.mem_of_getElem? (i := 881) (by decide +kernel), List.mem_of_getElem? (i := 882) (by decide +kernel)⟩
def lw_privs_3 : List (MethodName × Nat) := [(⟨"ImageBakerModel", "hasBase", "(I)Z"⟩, 32), (⟨"ImageBakerModel", "isAlike", "(I)Z"⟩, 32), (⟨"ImageBakerModel", "topNow", "(I)I"⟩, 32), (⟨"ImageBakerModel", "baseOf", "(I)I"⟩, 32), (⟨"ImageBakerModel", "find", "(III)I"⟩, 32), (⟨"ImageBakerModel", "makes", "(I)V"⟩, 32), (⟨"ImageBakerModel", "joins", "(II)I"⟩, 32), (⟨"ImageBakerModel", "isFreshNow", "(I)Z"⟩, 32), (⟨"ImageBakerModel", "isBake", "(I)Z"⟩, 32), (⟨"ImageBakerModel", "running", "(I)I"⟩, 32), (⟨"ImageBakerModel", "isTooOld", "(I)Z"⟩, 32), (⟨"ImageBakerModel", "bakeFor", "(III)I"⟩, 32), (⟨"ImageBakerModel", "isRunning", "(I)Z"⟩, 32), (⟨"ImageBakerModel", "next", "(I)I"⟩, 32), (⟨"ImageBakerModel", "isOld", "(I)Z"⟩, 32), (⟨"ImageBakerModel", "isAhead", "(II)Z"⟩, 32)]
theorem lw_r3 : ∀ q ∈ lw_privs_3, lw_okq q := List.forall_mem_cons.mpr ⟨lw_p32, List.forall_mem_cons.mpr ⟨lw_p33, List.forall_mem_cons.mpr ⟨lw_p34, List.forall_mem_cons.mpr ⟨lw_p35, List.forall_mem_cons.mpr ⟨lw_p36, List.forall_mem_cons.mpr ⟨lw_p37, List.forall_mem_cons.mpr ⟨lw_p38, List.forall_mem_cons.mpr ⟨lw_p39, List.forall_mem_cons.mpr ⟨lw_p40, List.forall_mem_cons.mpr ⟨lw_p41, List.forall_mem_cons.mpr ⟨lw_p42, List.forall_mem_cons.mpr ⟨lw_p43, List.forall_mem_cons.mpr ⟨lw_p44, List.forall_mem_cons.mpr ⟨lw_p45, List.forall_mem_cons.mpr ⟨lw_p46, List.forall_mem_cons.mpr ⟨lw_p47, fun _ h => absurd h List.not_mem_nil⟩⟩⟩⟩⟩⟩⟩⟩⟩⟩⟩⟩⟩⟩⟩⟩
def lw_privs : List (MethodName × Nat) := lw_privs_1 ++ (lw_privs_2 ++ (lw_privs_3))
def lw_tbl : List Cond := k2_sels lw_privs ++ tables_1
theorem lw_privs_ok : ∀ q ∈ lw_privs, lw_okq q := by
  show ∀ q ∈ lw_privs_1 ++ (lw_privs_2 ++ (lw_privs_3)), lw_okq q
  exact List.forall_mem_append.mpr ⟨lw_r1, List.forall_mem_append.mpr ⟨lw_r2, lw_r3⟩⟩
end
section
/-! ===== BEGIN words of one list among another's, by their places ===== -/
theorem goodIn_r {big : List Cond} (ws : List Cond) (ps : List Nat) (hp : ws = ps.filterMap (fun i => big[i]?)) (h : ws.all goodWord = true) : GoodIn big ws := by
  intro w hw
  have h1 := List.all_eq_true.mp h w hw
  rw [hp] at hw
  obtain ⟨i, -, hi⟩ := List.mem_filterMap.mp hw
  have hm : w ∈ big := by first | exact List.mem_of_getElem? hi | exact List.getElem?_mem hi
  exact ⟨hm, good_of_word h1⟩
theorem goodIn_app {big a b : List Cond} (ha : GoodIn big a) (hb : GoodIn big b) : GoodIn big (a ++ b) := fun w h => (List.mem_append.mp h).elim (ha w) (hb w)
theorem goodIn_ca {big a b : List Cond} {c : Cond} (ha : GoodIn big (c :: a)) (hb : GoodIn big b) : GoodIn big (c :: (a ++ b)) := fun w h => (List.mem_cons.mp h).elim (fun e => ha w (List.mem_cons.mpr (Or.inl e))) (fun h => (List.mem_append.mp h).elim (fun h => ha w (List.mem_cons.mpr (Or.inr h))) (hb w))
theorem goodIn_sub {big ws : List Cond} (hm : ∀ w ∈ ws, w ∈ big) (h : ws.all goodWord = true) : GoodIn big ws := fun w hw => ⟨hm w hw, good_of_word (List.all_eq_true.mp h w hw)⟩
/-! ===== END ===== -/

/-! ===== BEGIN exceptions that leave a method, and their catching by the caller (launches without stack traces) ===== -/
section VXA
/-! The laws vx_back, vx_callV, vx_callS, vx_callSW, vx_throw0, vx_throwS follow proofs of the library, with one case more: JvmDerived/Free/Laws.lean (Back.of_free), Shelf42/LK1.lean (callV, callS), Shelf/KitTraced.lean (throwNew0V, throwNewS). -/
/-- where a method has thrown q: the class by its name, the cell, what was written, the world -/
def vx_T (XC : String → State → State → Prop) (st : State) (q : Addr) (t : State) (mc ms : Nat) (free : Addr → Prop) : Prop :=
  ∃ (E : String) (ce : Cell) (L : List Loc), XC E st t ∧ t.heap[q]? = some ce ∧ ce.vm = .none ∧ st.vm.findClass E = some ce.cls ∧ st.WarmedH t.vm ∧ st.sameButNew ({ t with vm := st.vm } : State) L mc ms ∧ ∀ z ∈ L, free z.base
def vx_Q (Qc : Array Value → State → Outcome → State → Prop) (XC : String → State → State → Prop) (mc ms : Nat) (free : Addr → Prop) : Array Value → State → Outcome → State → Prop := fun a st o t =>
  (Qc a st o t ∧ ∃ L, FrameEnd st o t L mc ms ∧ ∀ q ∈ L, free q.base) ∨ ∃ q, o = .threw q ∧ vx_T XC st q t mc ms free
/-- a callee that returns or throws -/
def vx_Met (l : Launch) (y : MethodName) (ws : List Cond) (rm : Room) (Pc : Array Value → State → Prop) (Qc : Array Value → State → Outcome → State → Prop) (XC : String → State → State → Prop) (mc ms : Nat) (free : Addr → Prop) : Prop :=
  MetFree l y (headSpec ws rm) Pc (fun _ _ _ _ _ => True) (vx_Q Qc XC mc ms free)
def vx_Post (XC : String → State → State → Prop) (mc ms : Nat) (free : Addr → Prop) : Pt → Array Value → Addr → Pt → Prop := fun A a q B =>
  ∃ (g : JFrame) (mk : MethodId) (t : State) (L : List Loc) (E : String) (ce : Cell), B.U.heap = t.heap ∧ B.U.vm = t.vm ∧ XC E (A.U.calling g mk a) t ∧ t.heap[q]? = some ce ∧ ce.vm = .none ∧ A.U.vm.findClass E = some ce.cls ∧ B.locs = A.locs ++ L ∧ (∀ z ∈ L, free z.base) ∧ B.cells = A.cells + mc ∧ B.slots = A.slots + ms
def vx_Back (l : Launch) (R : Room) (p : Program) (e : Env) (below : List Frame) (s : State) (sargs : Array Value) (y : MethodName) (len W9 : Nat)
    (Pre : Pt → Array Value → Prop) (Post : Pt → Array Value → Option Value → Pt → Prop) (PostX : Pt → Array Value → Addr → Pt → Prop) : Prop :=
  ∀ (m : MethodId) (meth : Method) (c : Code) (A : Pt) (g : JFrame) (ig : Instr) (mk : MethodId) (a : Array Value),
    Stand p l e R s m sargs below meth c A.U A.locs A.cells A.slots → g.method = m → g.locals.size = c.maxLocals → decode c.code g.pc = .ok (ig, len) →
    2 * g.monitorRoom + (g.stack.map fun v => v.category).sum ≤ W9 → A.U.methodNamed? y = some mk → Pre A a →
    (∃ (v : Option Value) (B : Pt), Stand p l e R s m sargs below meth c B.U B.locs B.cells B.slots ∧ Post A a v B ∧
      Steps p.tables e below (doInvoke e (A.U.setTop g) [] mk a).1 (B.U.setTop { g with pc := g.pc + len, stack := v.toList ++ g.stack })) ∨
    (∃ (q : Addr) (B : Pt), Stand p l e R s m sargs below meth c B.U B.locs B.cells B.slots ∧ PostX A a q B ∧
      Steps p.tables e below (doInvoke e (A.U.setTop g) [] mk a).1 ((B.U.setTop g).pushFrame (.throwing q)))
section Payer
variable {l : Launch} {R : Room} {p : Program} {e : Env} {below : List Frame} {s : State} {sargs : Array Value} {y : MethodName} {len W9 : Nat}
theorem vx_back {ws : List Cond} {rm : Room} {Pc : Array Value → State → Prop} {Qc : Array Value → State → Outcome → State → Prop} {XC : String → State → State → Prop} {mc ms : Nat} {free : Addr → Prop} {bytes : ByteArray} {maxL : Nat} {ret : Option FieldType}
    (hM : vx_Met l y ws rm Pc Qc XC mc ms free) (hblind : FrameBlind Pc) (hrc : rm.cells = mc) (hrs : rm.slots = ms)
    (hframes : rm.frames + 1 ≤ R.frames) (hlocals : W9 + (maxL + 11) + rm.locals ≤ R.locals)
    (hws : ∀ w ∈ ws, ∀ a' U, s.WarmedH U.vm → w.before a' U = true) (hcode : Cond.code y bytes maxL ret ∈ ws) (hinit : ∀ a' U, s.WarmedH U.vm → (Cond.initialized y.cls).before a' U = true) :
    vx_Back l R p e below s sargs y len W9 (PreOf R mc ms Pc) (PostOf Qc mc ms free) (vx_Post XC mc ms free) := by
  intro m meth c A g ig mk a X hg hsize hdg hW hn hp
  have h1 : (headSpec ws rm).pre.before a A.U = true := atoms_intro fun w hw => hws w hw _ _ X.warmed
  have h2 : (Cond.code y bytes maxL ret).before a A.U = true := hws _ hcode _ _ X.warmed
  have h3 : (Cond.initialized y.cls).before a A.U = true := hinit _ _ X.warmed
  have h4 : A.cells + (headSpec ws rm).room.cells ≤ R.cells := by rw [show (headSpec ws rm).room.cells = mc from hrc]; exact hp.1
  have h5 : A.slots + (headSpec ws rm).room.slots ≤ R.slots := by rw [show (headSpec ws rm).room.slots = ms from hrs]; exact hp.2.1
  have hPc : Pc a (A.U.calling g mk a) := hblind _ _ _ _ hp.2.2
  obtain ⟨U, Ls, c0, s0⟩ := A
  dsimp only [Pt.U, Pt.locs, Pt.cells, Pt.slots] at h1 h2 h3 h4 h5 X hn hPc ⊢
  obtain ⟨methY, cY, hmY, hcY, -, hlY, -, -, -, -⟩ := Cond.code_spec hn h2
  obtain ⟨kY, hkY, -⟩ := className_of_methodNamed hn
  have hinitY : kY.init = .initialized := Cond.initialized_spec (findClass_of_methodNamed hn) hkY h3
  have h : At U g.method c below := by rw [hg]; exact X.here
  have hlocals9 : W9 + (maxL + 11) + (headSpec ws rm).room.locals ≤ R.locals := hlocals
  have happ : (headSpec ws rm).appliesLoose y e.platform (U.calling g mk a) = true :=
    Spec.appliesLoose_calling (g := g) h hdg hn hkY hinitY
      (X.room_calling (g := g) (R' := (headSpec ws rm).room) hsize hmY hcY hframes (by rw [hlY]; omega) h4 h5) h1
  obtain ⟨mid, hmid⟩ := h.above
  have hfr : (U.setTop g).frames = (.java g :: mid) ++ below := by rw [State.frames_setTop' g h.top, hmid]; rfl
  obtain ⟨o, s₂, hsteps, -, hend, hq⟩ := Steps.callFree hM p X.admits X.cas X.clock (acts := []) hfr happ hPc trivial
  have hq' : vx_Q Qc XC mc ms free a (U.calling g mk a) o s₂ := hq
  rw [State.frames_setTop' g h.top] at hend
  obtain ⟨g₀, hg0⟩ := Option.isSome_iff_exists.mp h.top
  obtain ⟨r, hr⟩ := State.topJava?_eq_some.mp hg0
  have hr' : (({ U with heap := s₂.heap, slotsUsed := s₂.slotsUsed } : State).setVm s₂.vm).frames = .java g₀ :: r := hr
  rcases hq' with ⟨hqc, L, hfe, hL⟩ | ⟨q, rfl, E, ce, L, hx, hce, hcv, hcl, hW₂, hsm, hL⟩
  · obtain ⟨⟨v, rfl⟩, hW₂, e2, q2, q3, q4, q5, q6⟩ := id hfe
    have e3 : s₂ = ({ (U.calling g mk a).setFrames s₂.frames with heap := s₂.heap, slotsUsed := s₂.slotsUsed } : State).setVm s₂.vm := by
      have : s₂ = ({ s₂ with vm := (U.calling g mk a).vm } : State).setVm s₂.vm := rfl
      rw [e2] at this
      exact this
    obtain ⟨c₂, i₂, len₂, hc₂, hd₂, hf₂⟩ := hend
    have hW' : U.WarmedH s₂.vm := hW₂
    have hcc : c₂ = c := by
      have h1 : s₂.code? g.method = U.code? g.method := by
        rw [State.code?_eq, State.code?_eq, hW'.alike.method?]
      exact Option.some.inj (hc₂.symm.trans (h1.trans h.code))
    subst hcc
    have hlen : len₂ = len := by rw [hdg] at hd₂; cases hd₂; rfl
    subst hlen
    have hs₂ : s₂ = (({ U with heap := s₂.heap, slotsUsed := s₂.slotsUsed } : State).setVm s₂.vm).setTop { g with pc := g.pc + len₂, stack := v.toList ++ g.stack } := by
      refine e3.trans ?_
      rw [hf₂, State.calling_eq h.top, State.setFrames_setFrames, State.setTop_of_frames _ hr', hr]
      rfl
    have hsame : U.sameButNew ({ U with heap := s₂.heap, slotsUsed := s₂.slotsUsed } : State) L mc ms := by
      refine ⟨?_, q2, q3, q4, q5, q6⟩
      obtain ⟨t, ht, -⟩ := State.frames_cons hr
      show ({ U with heap := s₂.heap, slotsUsed := s₂.slotsUsed } : State) = { U.setFrames U.frames with heap := s₂.heap, slotsUsed := s₂.slotsUsed }
      rw [State.setFrames_self ht]
    subst hg
    refine Or.inl ⟨v, ⟨(({ U with heap := s₂.heap, slotsUsed := s₂.slotsUsed } : State).setVm s₂.vm), Ls ++ L, c0 + mc, s0 + ms⟩,
      ⟨X.admits, X.cas, X.clock, X.frames, X.room, X.hears, X.method, X.code, (X.here.setHeapUsed s₂.heap s₂.slotsUsed).setVm hW'.alike, X.tail, State.WarmedH.trans X.warmed hW', X.limits, X.bytes, X.same.trans (hsame.setVm s.vm)⟩,
      ⟨g, mk, s₂, L, rfl, rfl, hqc, rfl, hL, rfl, rfl⟩, ?_⟩
    show Steps p.tables e below _ ((({ U with heap := s₂.heap, slotsUsed := s₂.slotsUsed } : State).setVm s₂.vm).setTop { g with pc := g.pc + len₂, stack := v.toList ++ g.stack })
    rw [← hs₂]
    exact hsteps
  · obtain ⟨e2, q2, q3, q4, q5, q6⟩ := id hsm
    have e3 : s₂ = ({ (U.calling g mk a).setFrames s₂.frames with heap := s₂.heap, slotsUsed := s₂.slotsUsed } : State).setVm s₂.vm := by
      have : s₂ = ({ s₂ with vm := (U.calling g mk a).vm } : State).setVm s₂.vm := rfl
      rw [e2] at this
      exact this
    have hf₂ : s₂.frames = .throwing q :: .java g :: U.frames.tail := hend
    have hW' : U.WarmedH s₂.vm := hW₂
    have hs₂ : s₂ = ((({ U with heap := s₂.heap, slotsUsed := s₂.slotsUsed } : State).setVm s₂.vm).setTop g).pushFrame (.throwing q) := by
      refine e3.trans ?_
      rw [hf₂, State.calling_eq h.top, State.setFrames_setFrames, State.pushFrame, State.frames_setTop _ hr', State.setTop_of_frames _ hr', State.setFrames_setFrames, hr]
      rfl
    have hsame : U.sameButNew ({ U with heap := s₂.heap, slotsUsed := s₂.slotsUsed } : State) L mc ms := by
      refine ⟨?_, q2, q3, q4, q5, q6⟩
      obtain ⟨t, ht, -⟩ := State.frames_cons hr
      show ({ U with heap := s₂.heap, slotsUsed := s₂.slotsUsed } : State) = { U.setFrames U.frames with heap := s₂.heap, slotsUsed := s₂.slotsUsed }
      rw [State.setFrames_self ht]
    subst hg
    refine Or.inr ⟨q, ⟨(({ U with heap := s₂.heap, slotsUsed := s₂.slotsUsed } : State).setVm s₂.vm), Ls ++ L, c0 + mc, s0 + ms⟩,
      ⟨X.admits, X.cas, X.clock, X.frames, X.room, X.hears, X.method, X.code, (X.here.setHeapUsed s₂.heap s₂.slotsUsed).setVm hW'.alike, X.tail, State.WarmedH.trans X.warmed hW', X.limits, X.bytes, X.same.trans (hsame.setVm s.vm)⟩,
      ⟨g, mk, s₂, L, E, ce, rfl, rfl, hx, hce, hcv, hcl, rfl, hL, rfl, rfl⟩, ?_⟩
    show Steps p.tables e below _ (((({ U with heap := s₂.heap, slotsUsed := s₂.slotsUsed } : State).setVm s₂.vm).setTop g).pushFrame (.throwing q))
    rw [← hs₂]
    exact hsteps
end Payer
section Calls
variable {p : Program} {l : Launch} {e : Env} {R : Room} {s : State} {m : MethodId} {args : Array Value} {below : List Frame} {meth : Method} {c : Code} {T : State} {locs : List Loc} {cells slots : Nat}
theorem vx_callV (X : Stand p l e R s m args below meth c T locs cells slots) (hexec : p.tables.exec = Jvm.exec) {own C : String} {index : Nat} {y : MethodName} {bytes : ByteArray} {maxL : Nat} {ret : Option FieldType}
    (hown : s.vm.findClass own = some m.cls) (hlink : (Cond.methodLink own index y).before args s = true) (hinst : (Cond.instanceMethod y).before args s = true) (hsel : (Cond.selects C y y).before args s = true)
    (hcode : (Cond.code y bytes maxL ret).before args s = true) (hy : y.cls ≠ "java/lang/invoke/MethodHandle" ∧ y.cls ≠ "java/lang/invoke/VarHandle")
    {W9 : Nat} {Pre : Pt → Array Value → Prop} {Post : Pt → Array Value → Option Value → Pt → Prop} {PostX : Pt → Array Value → Addr → Pt → Prop} (hK : vx_Back l R p e below s args y 3 W9 Pre Post PostX)
    {b : Addr} {cellB : Cell} (hcell : T.heap[b]? = some cellB) (hobj : cellB.vm.isStatics = false) (hcls : s.vm.findClass C = some cellB.cls)
    {g : JFrame} (hg : g.method = m) (hsize : g.locals.size = c.maxLocals) {argsL rest : List Value} (hlen : ∀ sig, parseMethodDescriptor y.desc = some sig → argsL.length = sig.parameters.length)
    (hstack : g.stack = argsL.reverse ++ .ref b :: rest) (hW : 2 * g.monitorRoom + (rest.map fun v => v.category).sum ≤ W9) (hdg : decode c.code g.pc = .ok (.invokevirtual index, 3))
    (hpre : ∀ vm₁, s.WarmedH vm₁ → Pre ⟨T.setVm vm₁, locs, cells, slots⟩ (Value.ref b :: argsL).toArray) :
    (∃ (v : Option Value) (vm₁ : Vm) (B : Pt), s.WarmedH vm₁ ∧ Stand p l e R s m args below meth c B.U B.locs B.cells B.slots ∧ Post ⟨T.setVm vm₁, locs, cells, slots⟩ (Value.ref b :: argsL).toArray v B ∧
      ∀ target, Steps p.tables e below (B.U.setTop { g with pc := g.pc + 3, stack := v.toList ++ rest }) target → Steps p.tables e below (T.setTop g) target) ∨
    (∃ (q : Addr) (vm₁ : Vm) (B : Pt), s.WarmedH vm₁ ∧ Stand p l e R s m args below meth c B.U B.locs B.cells B.slots ∧ PostX ⟨T.setVm vm₁, locs, cells, slots⟩ (Value.ref b :: argsL).toArray q B ∧
      Steps p.tables e below (T.setTop g) ((B.U.setTop { g with stack := rest }).pushFrame (.throwing q))) := by
  obtain ⟨mk, methM, hnamed, hmethM, hstM, habM⟩ := Cond.instanceMethod_spec hinst
  obtain ⟨methM', cM, hmethM', -, -, -, -, -, -, hsigM⟩ := Cond.code_spec hnamed hcode
  cases hmethM.symm.trans hmethM'
  obtain ⟨c2, r2, m2, q1, q2, q3, q4, kP, hkP, hkPi⟩ := Cond.selects_spec hsel
  cases hcls.symm.trans q1
  cases (State.methodFound?_of_named hnamed hy).symm.trans q2
  cases hnamed.symm.trans q3
  have hselP : selectMethod e.platform s.vm cellB.cls mk = .method mk := by rw [Launch.admits_selectMethod X.admits]; exact q4
  obtain ⟨vm₁, X₁, hstep₁⟩ := X.invokevirtual hexec hown hlink hnamed hmethM hstM hkP hkPi hy (a := b) (cell := cellB) hcell
    (fun z h => by rw [h] at hobj; cases hobj) hselP hmethM habM hkP hkPi (g := g) hg (argsL := argsL) (rest := rest) (hlen _ hsigM) hstack hdg
  rcases hK m meth c ⟨T.setVm vm₁, locs, cells, slots⟩ { g with stack := rest } (.invokevirtual index) mk (Value.ref b :: argsL).toArray X₁ hg hsize hdg hW (X₁.named hnamed) (hpre vm₁ X₁.warmed) with ⟨v, B, X', hpost, hsteps⟩ | ⟨q, B, X', hpost, hsteps⟩
  · exact Or.inl ⟨v, vm₁, B, X₁.warmed, X', hpost, fun target h => hstep₁ _ fun acts => by rw [doInvoke_state]; exact hsteps.trans h⟩
  · exact Or.inr ⟨q, vm₁, B, X₁.warmed, X', hpost, hstep₁ _ fun acts => by rw [doInvoke_state]; exact hsteps⟩
theorem vx_callS (X : Stand p l e R s m args below meth c T locs cells slots) (hexec : p.tables.exec = Jvm.exec) {own : String} {index : Nat} {y : MethodName} {bytes : ByteArray} {maxL : Nat} {ret : Option FieldType}
    (hown : s.vm.findClass own = some m.cls) (hlink : (Cond.methodLink own index y).before args s = true) (hstat : (Cond.static y).before args s = true) (hinit : (Cond.initialized y.cls).before args s = true)
    (hcode : (Cond.code y bytes maxL ret).before args s = true) (hy : y.cls ≠ "java/lang/invoke/MethodHandle" ∧ y.cls ≠ "java/lang/invoke/VarHandle")
    {W9 : Nat} {Pre : Pt → Array Value → Prop} {Post : Pt → Array Value → Option Value → Pt → Prop} {PostX : Pt → Array Value → Addr → Pt → Prop} (hK : vx_Back l R p e below s args y 3 W9 Pre Post PostX)
    {g : JFrame} (hg : g.method = m) (hsize : g.locals.size = c.maxLocals) {argsL rest : List Value} (hlen : ∀ sig, parseMethodDescriptor y.desc = some sig → argsL.length = sig.parameters.length)
    (hstack : g.stack = argsL.reverse ++ rest) (hW : 2 * g.monitorRoom + (rest.map fun v => v.category).sum ≤ W9) (hdg : decode c.code g.pc = .ok (.invokestatic index, 3))
    (hpre : ∀ vm₁, s.WarmedH vm₁ → Pre ⟨T.setVm vm₁, locs, cells, slots⟩ argsL.toArray) :
    (∃ (v : Option Value) (vm₁ : Vm) (B : Pt), s.WarmedH vm₁ ∧ Stand p l e R s m args below meth c B.U B.locs B.cells B.slots ∧ Post ⟨T.setVm vm₁, locs, cells, slots⟩ argsL.toArray v B ∧
      ∀ target, Steps p.tables e below (B.U.setTop { g with pc := g.pc + 3, stack := v.toList ++ rest }) target → Steps p.tables e below (T.setTop g) target) ∨
    (∃ (q : Addr) (vm₁ : Vm) (B : Pt), s.WarmedH vm₁ ∧ Stand p l e R s m args below meth c B.U B.locs B.cells B.slots ∧ PostX ⟨T.setVm vm₁, locs, cells, slots⟩ argsL.toArray q B ∧
      Steps p.tables e below (T.setTop g) ((B.U.setTop { g with stack := rest }).pushFrame (.throwing q))) := by
  obtain ⟨mk, hnamed⟩ := Cond.code_named hcode
  obtain ⟨methM, cM, hmethM, -, -, -, -, -, -, hsigM⟩ := Cond.code_spec hnamed hcode
  have hstatic : methM.isStatic = true := Cond.static_spec hnamed hmethM hstat
  obtain ⟨kP, hkP, -⟩ := className_of_methodNamed hnamed
  have hinitP : kP.init = .initialized := Cond.initialized_spec (findClass_of_methodNamed hnamed) hkP hinit
  obtain ⟨vm₁, X₁, hstep₁⟩ := X.invokestatic hexec hown hlink hnamed hmethM hstatic hkP hinitP hy (g := g) hg (argsL := argsL) (rest := rest) (hlen _ hsigM) hstack hdg
  rcases hK m meth c ⟨T.setVm vm₁, locs, cells, slots⟩ { g with stack := rest } (.invokestatic index) mk argsL.toArray X₁ hg hsize hdg hW (X₁.named hnamed) (hpre vm₁ X₁.warmed) with ⟨v, B, X', hpost, hsteps⟩ | ⟨q, B, X', hpost, hsteps⟩
  · exact Or.inl ⟨v, vm₁, B, X₁.warmed, X', hpost, fun target h => hstep₁ _ fun acts => by rw [doInvoke_state]; exact hsteps.trans h⟩
  · exact Or.inr ⟨q, vm₁, B, X₁.warmed, X', hpost, hstep₁ _ fun acts => by rw [doInvoke_state]; exact hsteps⟩
end Calls
theorem vx_cls {s : State} {T : State} {vm₁ : Vm} {E : String} {k : ClassId} (hW : s.WarmedH vm₁) (h : (T.setVm vm₁).vm.findClass E = some k) : s.vm.findClass E = some k := by
  have h1 : vm₁.findClass E = some k := h
  rw [hW.alike.findClass] at h1
  exact h1
/-- the method's frame g, with q thrown over it -/
def vx_W (p : Program) (l : Launch) (e : Env) (R : Room) (s : State) (m : MethodId) (args : Array Value) (below : List Frame) (meth : Method) (c : Code) (H : Heap) (locs : List Loc) (cells slots : Nat) (Q : State → Prop) (g : JFrame) (q : Addr) : Prop :=
  ∀ T : State, T.heap = H → Stand p l e R s m args below meth c T locs cells slots → ∃ t, Steps p.tables e below ((T.setTop g).pushFrame (.throwing q)) t ∧ Q t
def vx_Run (p : Program) (l : Launch) (e : Env) (R : Room) (s : State) (m : MethodId) (args : Array Value) (below : List Frame) (meth : Method) (c : Code) (H : Heap) (locs : List Loc) (cells slots mc ms : Nat) (g : JFrame) (rest : List Value) (Qa : State → Outcome → State → Prop) (XC : String → State → State → Prop) (free : Addr → Prop) : Prop :=
  ∀ T : State, T.heap = H → Stand p l e R s m args below meth c T locs cells slots →
    (∃ (v : Option Value) (st₀ t T' : State) (L : List Loc), st₀.heap = H ∧ Stand p l e R s m args below meth c T' (locs ++ L) (cells + mc) (slots + ms) ∧ (∀ q ∈ L, free q.base) ∧ T'.heap = t.heap ∧ T'.vm = t.vm ∧ Qa st₀ (.returned v) t ∧
      Goes p e below T g T' { g with pc := g.pc + 3, stack := v.toList ++ rest }) ∨
    (∃ (q : Addr) (st₀ t T' : State) (L : List Loc) (E : String) (ce : Cell), st₀.heap = H ∧ Stand p l e R s m args below meth c T' (locs ++ L) (cells + mc) (slots + ms) ∧ (∀ z ∈ L, free z.base) ∧ T'.heap = t.heap ∧ T'.vm = t.vm ∧ XC E st₀ t ∧ t.heap[q]? = some ce ∧ ce.vm = .none ∧ s.vm.findClass E = some ce.cls ∧
      Steps p.tables e below (T.setTop g) ((T'.setTop { g with stack := rest }).pushFrame (.throwing q)))
def vx_X {S : Type} (px : S → Prop) (B : String → S → State → Prop) (A : Nat → Prop) : String → State → State → Prop := fun E st t => ∃ u : S, px u ∧ B E u t ∧ va_F A st t
section Runs
variable {p : Program} {l : Launch} {e : Env} {R : Room} {s : State} {m : MethodId} {args : Array Value} {below : List Frame} {meth : Method} {c : Code} {H : Heap} {locs : List Loc} {cells slots : Nat}
variable {y : MethodName} {bytes cc : ByteArray} {maxL nL mc ms n index : Nat} {ret : Option FieldType} {ws : List Cond} {rm : Room} {Pc : Array Value → State → Prop} {Qc : Array Value → State → Outcome → State → Prop} {XC : String → State → State → Prop} {free : Addr → Prop} {Ts : List Cond} {own C : String} {b : Addr} {As rest : List Value} {g : JFrame}
theorem vx_callBack (cb : CallB R s args own index y bytes maxL ret ws rm mc ms n) (hM : vx_Met l y ws rm Pc Qc XC mc ms free) (hbl : FrameBlind Pc) : vx_Back l R p e below s args y 3 8 (PreOf R mc ms Pc) (PostOf Qc mc ms free) (vx_Post XC mc ms free) := by
  obtain ⟨hrc, hrs, hfr, hlo, hws, hcw, -, hini, -⟩ := cb
  exact vx_back (bytes := bytes) (maxL := maxL) (ret := ret) hM hbl hrc hrs hfr hlo hws hcw (fun a' U hW => word_at hW (Or.inl (by first | rfl | simp [Cond.onTables, Cond.keeps, Cond.steady])) hini)
theorem vx_runV (S : CallFix p m c cc nL s args Ts own) (hM : vx_Met l y ws rm Pc Qc XC mc ms free) (cw : CallW R s args own C index y bytes maxL ret ws rm mc ms n) (hp : PreV s H C b Pc As)
    (hg : g.method = m) (hn : As.length = n) (hsize : g.locals.size = nL) (hstack : g.stack = As.reverse ++ .ref b :: rest) (hW : 2 * g.monitorRoom + (rest.map fun v => v.category).sum ≤ 8) (hdg : decode cc g.pc = .ok (.invokevirtual index, 3)) (hf : cells + mc ≤ R.cells ∧ slots + ms ≤ R.slots) :
    vx_Run p l e R s m args below meth c H locs cells slots mc ms g rest (Qc (Value.ref b :: As).toArray) XC free := by
  have hK : vx_Back l R p e below s args y 3 8 (PreOf R mc ms Pc) (PostOf Qc mc ms free) (vx_Post XC mc ms free) := vx_callBack cw.1 hM hp.1
  obtain ⟨⟨-, -, -, -, -, -, hcode, -, hy, hlen, hl⟩, hin, hse⟩ := cw
  obtain ⟨hx, hb, hml, ho, -⟩ := S
  obtain ⟨-, ⟨cellB, hcB, hoB, hclB⟩, hPc⟩ := hp
  intro T hT X
  rcases vx_callV X hx (C := C) (bytes := bytes) (maxL := maxL) (ret := ret) ho hl hin hse hcode hy hK (by rw [hT]; exact hcB) hoB hclB hg (hsize.trans hml.symm) (argsL := As) (rest := rest) (fun sig h => hn.trans (hlen sig h)) hstack hW (by rw [hb]; exact hdg)
    (fun vm₁ hW₁ => ⟨hf.1, hf.2, hPc (T.setVm vm₁) hT hW₁⟩) with ⟨v, vm₁, ⟨U', l2, c2, s2⟩, hW₁, X', ⟨g', mk, t, L, e1, e2, hq, h1, hL, h2, h3⟩, st⟩ | ⟨q, vm₁, ⟨U', l2, c2, s2⟩, hW₁, X', ⟨g', mk, t, L, E, ce, e1, e2, hq, hce, hcv, hcl, h1, hL, h2, h3⟩, st⟩
  · dsimp only [Pt.U, Pt.locs, Pt.cells, Pt.slots] at X' e1 e2 h1 h2 h3 st
    subst h1; subst h2; subst h3
    exact Or.inl ⟨v, (T.setVm vm₁).calling g' mk (Value.ref b :: As).toArray, t, U', L, hT, X', hL, e1, e2, hq, st⟩
  · dsimp only [Pt.U, Pt.locs, Pt.cells, Pt.slots] at X' e1 e2 h1 h2 h3 st hcl
    subst h1; subst h2; subst h3
    exact Or.inr ⟨q, (T.setVm vm₁).calling g' mk (Value.ref b :: As).toArray, t, U', L, E, ce, hT, X', hL, e1, e2, hq, hce, hcv, vx_cls hW₁ hcl, st⟩
theorem vx_runS (S : CallFix p m c cc nL s args Ts own) (hM : vx_Met l y ws rm Pc Qc XC mc ms free) (cw : CallB R s args own index y bytes maxL ret ws rm mc ms n ∧ (Cond.static y).before args s = true) (hp : PreS s H Pc As)
    (hg : g.method = m) (hn : As.length = n) (hsize : g.locals.size = nL) (hstack : g.stack = As.reverse ++ rest) (hW : 2 * g.monitorRoom + (rest.map fun v => v.category).sum ≤ 8) (hdg : decode cc g.pc = .ok (.invokestatic index, 3)) (hf : cells + mc ≤ R.cells ∧ slots + ms ≤ R.slots) :
    vx_Run p l e R s m args below meth c H locs cells slots mc ms g rest (Qc As.toArray) XC free := by
  have hK : vx_Back l R p e below s args y 3 8 (PreOf R mc ms Pc) (PostOf Qc mc ms free) (vx_Post XC mc ms free) := vx_callBack cw.1 hM hp.1
  obtain ⟨⟨-, -, -, -, -, -, hcode, hini, hy, hlen, hl⟩, hstt⟩ := cw
  obtain ⟨hx, hb, hml, ho, -⟩ := S
  intro T hT X
  rcases vx_callS X hx (bytes := bytes) (maxL := maxL) (ret := ret) ho hl hstt hini hcode hy hK hg (hsize.trans hml.symm) (argsL := As) (rest := rest) (fun sig h => hn.trans (hlen sig h)) hstack hW (by rw [hb]; exact hdg)
    (fun vm₁ hW₁ => ⟨hf.1, hf.2, hp.2 (T.setVm vm₁) hT hW₁⟩) with ⟨v, vm₁, ⟨U', l2, c2, s2⟩, hW₁, X', ⟨g', mk, t, L, e1, e2, hq, h1, hL, h2, h3⟩, st⟩ | ⟨q, vm₁, ⟨U', l2, c2, s2⟩, hW₁, X', ⟨g', mk, t, L, E, ce, e1, e2, hq, hce, hcv, hcl, h1, hL, h2, h3⟩, st⟩
  · dsimp only [Pt.U, Pt.locs, Pt.cells, Pt.slots] at X' e1 e2 h1 h2 h3 st
    subst h1; subst h2; subst h3
    exact Or.inl ⟨v, (T.setVm vm₁).calling g' mk As.toArray, t, U', L, hT, X', hL, e1, e2, hq, st⟩
  · dsimp only [Pt.U, Pt.locs, Pt.cells, Pt.slots] at X' e1 e2 h1 h2 h3 st hcl
    subst h1; subst h2; subst h3
    exact Or.inr ⟨q, (T.setVm vm₁).calling g' mk As.toArray, t, U', L, E, ce, hT, X', hL, e1, e2, hq, hce, hcv, vx_cls hW₁ hcl, st⟩
end Runs
section Rows
variable {p : Program} {l : Launch} {e : Env} {R : Room} {s : State} {m : MethodId} {args : Array Value} {below : List Frame} {meth : Method} {c : Code} {H : Heap} {locs : List Loc} {cells slots : Nat} {Q : State → Prop}
variable {mc ms : Nat} {free : Addr → Prop} {A0 A1 : Nat → Prop} {H0 : Heap} {a : Array Value} {pc : Nat} {ls : Array Slot} {st0 rest : List Value}
theorem vx_keep {st₀ t T' : State} {L : List Loc} (h0 : st₀.heap = H) (e1 : T'.heap = t.heap) (hS : va_S A0 H0 H locs) (hA : ∀ q, q < H.size → A1 q → A0 q) (hf : ∀ q, free q → A0 q) (hL : ∀ q ∈ L, free q.base) (hF : va_F A1 st₀ t) :
    H.size ≤ T'.heap.size ∧ (∀ q : Nat, q < H.size → ¬ A1 q → T'.heap[q]? = H[q]?) ∧ va_S A0 H0 T'.heap (locs ++ L) := by
  obtain ⟨hz, hk⟩ := hF
  rw [h0] at hz hk
  exact ⟨by rw [e1]; exact hz, fun q h1 h2 => by rw [e1]; exact hk q h1 h2,
    ⟨Nat.le_trans hS.1 (by rw [e1]; exact hz), fun q h1 h2 => by rw [e1, hk q (Nat.lt_of_lt_of_le h1 hS.1) (fun z => h2 (hA q (Nat.lt_of_lt_of_le h1 hS.1) z))]; exact hS.2.1 q h1 h2, fun q hq => by
      rcases List.mem_append.mp hq with h | h
      · exact hS.2.2 q h
      · exact hf _ (hL q h)⟩⟩
theorem vx_calli {S SX : Type} {post : Int32 → S → Prop} {px : SX → Prop} {B : S → State → Prop} {BX : String → SX → State → Prop} {AX : Nat → Prop} (hr : vx_Run p l e R s m args below meth c H locs cells slots mc ms (F0 m pc ls st0) rest (va_Qi post B A1 a) (vx_X px BX AX) free) (hS : va_S A0 H0 H locs) (hA : ∀ q, q < H.size → A1 q → A0 q) (hf : ∀ q, free q → A0 q) (hAX : ∀ q, q < H.size → AX q → A0 q)
    (kx : ∀ (E : String) (ce : Cell) (q9 : Addr) (u : SX) (t : State) (H1 : Heap) (locs1 : List Loc), t.heap = H1 → s.vm.Alike t.vm → px u → BX E u t → H.size ≤ H1.size → (∀ q : Nat, q < H.size → ¬ AX q → H1[q]? = H[q]?) → va_S A0 H0 H1 locs1 → H1[q9]? = some ce → ce.vm = .none → s.vm.findClass E = some ce.cls → vx_W p l e R s m args below meth c H1 locs1 (cells + mc) (slots + ms) Q (F0 m pc ls rest) q9)
    (kk : ∀ (r : Int32) (u : S) (t : State) (H1 : Heap) (locs1 : List Loc), t.heap = H1 → s.vm.Alike t.vm → post r u → B u t → H.size ≤ H1.size → (∀ q : Nat, q < H.size → ¬ A1 q → H1[q]? = H[q]?) → va_S A0 H0 H1 locs1 → W p l e R s m args below meth c H1 locs1 (cells + mc) (slots + ms) Q (F0 m (pc + 3) ls (.int r :: rest))) : W p l e R s m args below meth c H locs cells slots Q (F0 m pc ls st0) := by
  intro T hT X
  rcases hr T hT X with ⟨v, st₀, t, T', L, h0, X', hL, e1, e2, ⟨⟨r, u, hv, hp, hb⟩, hF⟩, st⟩ | ⟨q, st₀, t, T', L, E, ce, h0, X', hL, e1, e2, ⟨u, hp, hb, hF⟩, hce, hcv, hcl, st⟩
  · cases hv
    obtain ⟨k1, k2, k3⟩ := vx_keep h0 e1 hS hA hf hL hF
    obtain ⟨t2, a1, b1⟩ := kk r u t T'.heap (locs ++ L) e1.symm (by rw [← e2]; exact X'.warmed.alike) hp hb k1 k2 k3 T' rfl X'
    exact ⟨t2, st t2 a1, b1⟩
  · obtain ⟨k1, k2, k3⟩ := vx_keep h0 e1 hS hAX hf hL hF
    obtain ⟨t2, a1, b1⟩ := kx E ce q u t T'.heap (locs ++ L) e1.symm (by rw [← e2]; exact X'.warmed.alike) hp hb k1 k2 k3 (by rw [e1]; exact hce) hcv hcl T' rfl X'
    exact ⟨t2, st.trans a1, b1⟩
theorem vx_calll {S SX : Type} {post : Int64 → S → Prop} {px : SX → Prop} {B : S → State → Prop} {BX : String → SX → State → Prop} {AX : Nat → Prop} (hr : vx_Run p l e R s m args below meth c H locs cells slots mc ms (F0 m pc ls st0) rest (va_Ql post B A1 a) (vx_X px BX AX) free) (hS : va_S A0 H0 H locs) (hA : ∀ q, q < H.size → A1 q → A0 q) (hf : ∀ q, free q → A0 q) (hAX : ∀ q, q < H.size → AX q → A0 q)
    (kx : ∀ (E : String) (ce : Cell) (q9 : Addr) (u : SX) (t : State) (H1 : Heap) (locs1 : List Loc), t.heap = H1 → s.vm.Alike t.vm → px u → BX E u t → H.size ≤ H1.size → (∀ q : Nat, q < H.size → ¬ AX q → H1[q]? = H[q]?) → va_S A0 H0 H1 locs1 → H1[q9]? = some ce → ce.vm = .none → s.vm.findClass E = some ce.cls → vx_W p l e R s m args below meth c H1 locs1 (cells + mc) (slots + ms) Q (F0 m pc ls rest) q9)
    (kk : ∀ (r : Int64) (u : S) (t : State) (H1 : Heap) (locs1 : List Loc), t.heap = H1 → s.vm.Alike t.vm → post r u → B u t → H.size ≤ H1.size → (∀ q : Nat, q < H.size → ¬ A1 q → H1[q]? = H[q]?) → va_S A0 H0 H1 locs1 → W p l e R s m args below meth c H1 locs1 (cells + mc) (slots + ms) Q (F0 m (pc + 3) ls (.long r :: rest))) : W p l e R s m args below meth c H locs cells slots Q (F0 m pc ls st0) := by
  intro T hT X
  rcases hr T hT X with ⟨v, st₀, t, T', L, h0, X', hL, e1, e2, ⟨⟨r, u, hv, hp, hb⟩, hF⟩, st⟩ | ⟨q, st₀, t, T', L, E, ce, h0, X', hL, e1, e2, ⟨u, hp, hb, hF⟩, hce, hcv, hcl, st⟩
  · cases hv
    obtain ⟨k1, k2, k3⟩ := vx_keep h0 e1 hS hA hf hL hF
    obtain ⟨t2, a1, b1⟩ := kk r u t T'.heap (locs ++ L) e1.symm (by rw [← e2]; exact X'.warmed.alike) hp hb k1 k2 k3 T' rfl X'
    exact ⟨t2, st t2 a1, b1⟩
  · obtain ⟨k1, k2, k3⟩ := vx_keep h0 e1 hS hAX hf hL hF
    obtain ⟨t2, a1, b1⟩ := kx E ce q u t T'.heap (locs ++ L) e1.symm (by rw [← e2]; exact X'.warmed.alike) hp hb k1 k2 k3 (by rw [e1]; exact hce) hcv hcl T' rfl X'
    exact ⟨t2, st.trans a1, b1⟩
theorem vx_callf {S SX : Type} {post : UInt32 → S → Prop} {px : SX → Prop} {B : S → State → Prop} {BX : String → SX → State → Prop} {AX : Nat → Prop} (hr : vx_Run p l e R s m args below meth c H locs cells slots mc ms (F0 m pc ls st0) rest (va_Qf post B A1 a) (vx_X px BX AX) free) (hS : va_S A0 H0 H locs) (hA : ∀ q, q < H.size → A1 q → A0 q) (hf : ∀ q, free q → A0 q) (hAX : ∀ q, q < H.size → AX q → A0 q)
    (kx : ∀ (E : String) (ce : Cell) (q9 : Addr) (u : SX) (t : State) (H1 : Heap) (locs1 : List Loc), t.heap = H1 → s.vm.Alike t.vm → px u → BX E u t → H.size ≤ H1.size → (∀ q : Nat, q < H.size → ¬ AX q → H1[q]? = H[q]?) → va_S A0 H0 H1 locs1 → H1[q9]? = some ce → ce.vm = .none → s.vm.findClass E = some ce.cls → vx_W p l e R s m args below meth c H1 locs1 (cells + mc) (slots + ms) Q (F0 m pc ls rest) q9)
    (kk : ∀ (r : UInt32) (u : S) (t : State) (H1 : Heap) (locs1 : List Loc), t.heap = H1 → s.vm.Alike t.vm → post r u → B u t → H.size ≤ H1.size → (∀ q : Nat, q < H.size → ¬ A1 q → H1[q]? = H[q]?) → va_S A0 H0 H1 locs1 → W p l e R s m args below meth c H1 locs1 (cells + mc) (slots + ms) Q (F0 m (pc + 3) ls (.float r :: rest))) : W p l e R s m args below meth c H locs cells slots Q (F0 m pc ls st0) := by
  intro T hT X
  rcases hr T hT X with ⟨v, st₀, t, T', L, h0, X', hL, e1, e2, ⟨⟨r, u, hv, hp, hb⟩, hF⟩, st⟩ | ⟨q, st₀, t, T', L, E, ce, h0, X', hL, e1, e2, ⟨u, hp, hb, hF⟩, hce, hcv, hcl, st⟩
  · cases hv
    obtain ⟨k1, k2, k3⟩ := vx_keep h0 e1 hS hA hf hL hF
    obtain ⟨t2, a1, b1⟩ := kk r u t T'.heap (locs ++ L) e1.symm (by rw [← e2]; exact X'.warmed.alike) hp hb k1 k2 k3 T' rfl X'
    exact ⟨t2, st t2 a1, b1⟩
  · obtain ⟨k1, k2, k3⟩ := vx_keep h0 e1 hS hAX hf hL hF
    obtain ⟨t2, a1, b1⟩ := kx E ce q u t T'.heap (locs ++ L) e1.symm (by rw [← e2]; exact X'.warmed.alike) hp hb k1 k2 k3 (by rw [e1]; exact hce) hcv hcl T' rfl X'
    exact ⟨t2, st.trans a1, b1⟩
theorem vx_calld {S SX : Type} {post : UInt64 → S → Prop} {px : SX → Prop} {B : S → State → Prop} {BX : String → SX → State → Prop} {AX : Nat → Prop} (hr : vx_Run p l e R s m args below meth c H locs cells slots mc ms (F0 m pc ls st0) rest (va_Qd post B A1 a) (vx_X px BX AX) free) (hS : va_S A0 H0 H locs) (hA : ∀ q, q < H.size → A1 q → A0 q) (hf : ∀ q, free q → A0 q) (hAX : ∀ q, q < H.size → AX q → A0 q)
    (kx : ∀ (E : String) (ce : Cell) (q9 : Addr) (u : SX) (t : State) (H1 : Heap) (locs1 : List Loc), t.heap = H1 → s.vm.Alike t.vm → px u → BX E u t → H.size ≤ H1.size → (∀ q : Nat, q < H.size → ¬ AX q → H1[q]? = H[q]?) → va_S A0 H0 H1 locs1 → H1[q9]? = some ce → ce.vm = .none → s.vm.findClass E = some ce.cls → vx_W p l e R s m args below meth c H1 locs1 (cells + mc) (slots + ms) Q (F0 m pc ls rest) q9)
    (kk : ∀ (r : UInt64) (u : S) (t : State) (H1 : Heap) (locs1 : List Loc), t.heap = H1 → s.vm.Alike t.vm → post r u → B u t → H.size ≤ H1.size → (∀ q : Nat, q < H.size → ¬ A1 q → H1[q]? = H[q]?) → va_S A0 H0 H1 locs1 → W p l e R s m args below meth c H1 locs1 (cells + mc) (slots + ms) Q (F0 m (pc + 3) ls (.double r :: rest))) : W p l e R s m args below meth c H locs cells slots Q (F0 m pc ls st0) := by
  intro T hT X
  rcases hr T hT X with ⟨v, st₀, t, T', L, h0, X', hL, e1, e2, ⟨⟨r, u, hv, hp, hb⟩, hF⟩, st⟩ | ⟨q, st₀, t, T', L, E, ce, h0, X', hL, e1, e2, ⟨u, hp, hb, hF⟩, hce, hcv, hcl, st⟩
  · cases hv
    obtain ⟨k1, k2, k3⟩ := vx_keep h0 e1 hS hA hf hL hF
    obtain ⟨t2, a1, b1⟩ := kk r u t T'.heap (locs ++ L) e1.symm (by rw [← e2]; exact X'.warmed.alike) hp hb k1 k2 k3 T' rfl X'
    exact ⟨t2, st t2 a1, b1⟩
  · obtain ⟨k1, k2, k3⟩ := vx_keep h0 e1 hS hAX hf hL hF
    obtain ⟨t2, a1, b1⟩ := kx E ce q u t T'.heap (locs ++ L) e1.symm (by rw [← e2]; exact X'.warmed.alike) hp hb k1 k2 k3 (by rw [e1]; exact hce) hcv hcl T' rfl X'
    exact ⟨t2, st.trans a1, b1⟩
theorem vx_callv {S SX : Type} {post : S → Prop} {px : SX → Prop} {B : S → State → Prop} {BX : String → SX → State → Prop} {AX : Nat → Prop} (hr : vx_Run p l e R s m args below meth c H locs cells slots mc ms (F0 m pc ls st0) rest (va_Qv post B A1 a) (vx_X px BX AX) free) (hS : va_S A0 H0 H locs) (hA : ∀ q, q < H.size → A1 q → A0 q) (hf : ∀ q, free q → A0 q) (hAX : ∀ q, q < H.size → AX q → A0 q)
    (kx : ∀ (E : String) (ce : Cell) (q9 : Addr) (u : SX) (t : State) (H1 : Heap) (locs1 : List Loc), t.heap = H1 → s.vm.Alike t.vm → px u → BX E u t → H.size ≤ H1.size → (∀ q : Nat, q < H.size → ¬ AX q → H1[q]? = H[q]?) → va_S A0 H0 H1 locs1 → H1[q9]? = some ce → ce.vm = .none → s.vm.findClass E = some ce.cls → vx_W p l e R s m args below meth c H1 locs1 (cells + mc) (slots + ms) Q (F0 m pc ls rest) q9)
    (kk : ∀ (u : S) (t : State) (H1 : Heap) (locs1 : List Loc), t.heap = H1 → s.vm.Alike t.vm → post u → B u t → H.size ≤ H1.size → (∀ q : Nat, q < H.size → ¬ A1 q → H1[q]? = H[q]?) → va_S A0 H0 H1 locs1 → W p l e R s m args below meth c H1 locs1 (cells + mc) (slots + ms) Q (F0 m (pc + 3) ls (rest))) : W p l e R s m args below meth c H locs cells slots Q (F0 m pc ls st0) := by
  intro T hT X
  rcases hr T hT X with ⟨v, st₀, t, T', L, h0, X', hL, e1, e2, ⟨⟨u, hv, hp, hb⟩, hF⟩, st⟩ | ⟨q, st₀, t, T', L, E, ce, h0, X', hL, e1, e2, ⟨u, hp, hb, hF⟩, hce, hcv, hcl, st⟩
  · cases hv
    obtain ⟨k1, k2, k3⟩ := vx_keep h0 e1 hS hA hf hL hF
    obtain ⟨t2, a1, b1⟩ := kk u t T'.heap (locs ++ L) e1.symm (by rw [← e2]; exact X'.warmed.alike) hp hb k1 k2 k3 T' rfl X'
    exact ⟨t2, st t2 a1, b1⟩
  · obtain ⟨k1, k2, k3⟩ := vx_keep h0 e1 hS hAX hf hL hF
    obtain ⟨t2, a1, b1⟩ := kx E ce q u t T'.heap (locs ++ L) e1.symm (by rw [← e2]; exact X'.warmed.alike) hp hb k1 k2 k3 (by rw [e1]; exact hce) hcv hcl T' rfl X'
    exact ⟨t2, st.trans a1, b1⟩
/-- caught by the row x of this method's table; the rows ahead don't take it -/
theorem vx_catch {own name : String} {E : String} {ce : Cell} {q : Addr} (hown : s.vm.findClass own = some m.cls) (pre : List ExceptionTableEntry) (x : ExceptionTableEntry) (suf : List ExceptionTableEntry) (hsplit : c.exceptionTable.toList = pre ++ x :: suf)
    (hpass : ∀ z ∈ pre, covers z pc = false ∨ (z.catchType ≠ 0 ∧ ∃ nm : String, (Cond.classLink own z.catchType nm).before args s = true ∧ va_Nc E nm s)) (hx : covers x pc = true) (h0 : x.catchType ≠ 0)
    (hlink : (Cond.classLink own x.catchType name).before args s = true) (hcast : (Cond.castable E name).before args s = true) (hcell : H[q]? = some ce) (hv : ce.vm = .none) (hcl : s.vm.findClass E = some ce.cls)
    (kk : W p l e R s m args below meth c H locs cells slots Q (F0 m x.handlerPc ls [.ref q])) : vx_W p l e R s m args below meth c H locs cells slots Q (F0 m pc ls rest) q := by
  intro T hT X
  have hpl : e.platform.magicAccessors = ({} : Platform).magicAccessors := by rw [X.admits.platform]
  obtain ⟨c3, c4, hc3, hc4, hasg⟩ := Cond.castable_spec hcast
  cases Option.some.inj (hc3.symm.trans hcl)
  obtain ⟨c5, hc5, hcl5⟩ := Cond.classLink_spec hown hlink e.platform hpl
  cases Option.some.inj (hc4.symm.trans hc5)
  obtain ⟨vm', X', st⟩ := X.thenCaughtThrough q (g := F0 m pc ls rest) rfl (Steps.refl _) (by rw [hT]; exact hcell) (by rw [hv]; rfl) (by obtain ⟨k9, h9, -⟩ := Vm.findClass_spec hcl; exact ⟨k9, h9⟩) pre x suf hsplit
    (fun z hz => by
      rcases hpass z hz with h | ⟨hz0, nm, hl1, hn1⟩
      · exact Or.inl h
      · obtain ⟨c6, hc6, hcl6⟩ := Cond.classLink_spec hown hl1 e.platform hpl
        obtain ⟨a8, b8, h1, h2, h3⟩ := hn1
        cases Option.some.inj (h1.symm.trans hcl)
        cases Option.some.inj (h2.symm.trans hc6)
        exact Or.inr ⟨hz0, _, hcl6, h3⟩) hx (Or.inr ⟨h0, c4, hcl5, hasg⟩)
  obtain ⟨t, a1, b1⟩ := kk (T.setVm vm') hT X'
  exact ⟨t, st.trans a1, b1⟩
end Rows
section Ends
variable {p : Program} {l : Launch} {e : Env} {R : Room} {s : State} {m : MethodId} {args : Array Value} {below : List Frame} {meth : Method} {c : Code} {H : Heap} {locs : List Loc} {cells slots : Nat} {Q : State → Prop}
variable {mc ms : Nat} {free : Addr → Prop} {A0 A1 : Nat → Prop} {H0 : Heap} {a : Array Value} {ls : Array Slot} {st0 rest : List Value}
variable {Qc : Array Value → State → Outcome → State → Prop} {XC : String → State → State → Prop}
/-- what a body that may throw owes at its end -/
def vx_MQ (below : List Frame) (Qc : Array Value → State → Outcome → State → Prop) (XC : String → State → State → Prop) (a : Array Value) (s : State) (mc ms : Nat) (free : Addr → Prop) : State → Prop := fun t =>
  ∃ o, t.status = .running ∧ Ended t below o ∧ vx_Q Qc XC mc ms free a s o t
theorem vx_ret {g : JFrame} {mc ms : Nat} (k : W p l e R s m args below meth c H locs cells slots (MQ below Qc args s mc ms free) g) : W p l e R s m args below meth c H locs cells slots (vx_MQ below Qc XC args s mc ms free) g := by
  intro T hT X
  obtain ⟨t, a1, o, b1, b2, b3, b4⟩ := k T hT X
  exact ⟨t, a1, o, b1, b2, Or.inl ⟨b3, b4⟩⟩
/-- not caught here: it goes on to the caller -/
theorem vx_widen {g : JFrame} {q : Addr} {k n : Nat} (h1 : cells ≤ k) (h2 : slots ≤ n) (kk : vx_W p l e R s m args below meth c H locs k n Q g q) : vx_W p l e R s m args below meth c H locs cells slots Q g q := fun T hT X => kk T hT (stand_widen X h1 h2)
theorem vx_out {pc : Nat} {E : String} {ce : Cell} {q : Addr} {mc ms : Nat} (hout : ∀ x ∈ c.exceptionTable.toList, covers x pc = false) (hlocks : meth.locks = false) (hcell : H[q]? = some ce) (hv : ce.vm = .none) (hcl : s.vm.findClass E = some ce.cls)
    (hx : ∀ t : State, t.heap = H → s.vm.Alike t.vm → XC E s t) (hf : ∀ z ∈ locs, free z.base) (hc : cells ≤ mc) (hs : slots ≤ ms) :
    vx_W p l e R s m args below meth c H locs cells slots (vx_MQ below Qc XC args s mc ms free) (F0 m pc ls rest) q := by
  intro T hT X
  obtain ⟨st1, hrun, hend, hW, hsm⟩ := X.leaveThrown q (g := F0 m pc ls rest) rfl rfl rfl hout hlocks
  have hcell9 : (T.setFrames (.throwing q :: below)).heap[q]? = some ce := by
    show T.heap[q]? = some ce
    rw [hT]; exact hcell
  exact ⟨_, st1, .threw q, hrun, hend, Or.inr ⟨q, rfl, E, ce, locs, hx _ hT hW.alike, hcell9, hv, hcl, hW, hsm.mono hc hs, hf⟩⟩
theorem vx_frame {U : State} {k n : Nat} (h : s.sameButNew ({ U with vm := s.vm } : State) locs k n) : s.heap.size ≤ U.heap.size ∧ ∀ q : Nat, q < s.heap.size → (∀ z ∈ locs, z.base ≠ q) → U.heap[q]? = s.heap[q]? := by
  obtain ⟨-, h2, -, -, -, h6⟩ := h
  refine ⟨h2, fun q hq hz => ?_⟩
  obtain ⟨c9, e1, e2, e3, e4⟩ := h6 q _ (Array.getElem?_eq_getElem hq)
  have hs : c9.slots = (s.heap[q]).slots := Array.ext_getElem? fun i => e4 i fun hm => hz _ hm rfl
  have h9 : c9 = s.heap[q] := by
    rw [hs] at e2
    exact e2
  have e5 : U.heap[q]? = some c9 := e1
  rw [e5, h9, Array.getElem?_eq_getElem hq]
/-- the words of a throw but the four that speak of the heap -/
def vx_no (w : Cond) : Bool := decide (w ≠ .isRef (.static Bundle.tN "UNASSIGNED_STACK" Bundle.steD)) && decide (w ≠ .isRef (.static Bundle.tN "SUPPRESSED_SENTINEL" Bundle.listD)) && decide (w ≠ .laysStatic Bundle.tN "UNASSIGNED_STACK" Bundle.steD) && decide (w ≠ .laysStatic Bundle.tN "SUPPRESSED_SENTINEL" Bundle.listD)
def vx_at0 (own : String) (ic : Nat) (X : String) (names : List String) : List Cond := (Bundle.ownAtoms0 own ic X names).filter vx_no
def vx_atS (own : String) (ic : Nat) (X : String) (names : List String) : List Cond := (Bundle.ownAtoms own ic X names).filter vx_no
/-- a word that the tables alone decide, or a good one -/
def vx_ot (w : Cond) : Bool := w.onTables || goodWord w
theorem vx_ot_at {args a' : Array Value} {s U : State} {w : Cond} (hW : s.WarmedH U.vm) (hvm : s.vm = U.vm) (hg : vx_ot w = true) (h : w.before args s = true) : w.before a' U = true := by
  simp only [vx_ot, Bool.or_eq_true] at hg
  rcases hg with hg | hg
  · exact va_tabs hg hvm h
  · exact word_at hW (good_of_word hg) h
/-- a list's words: the good ones out of the method's own list, the others by premises of their own -/
theorem vx_hat {args : Array Value} {s : State} {L B : List Cond} (h1 : ∀ w ∈ L.filter goodWord, w.before args s = true) (h2 : ∀ w ∈ L.filter (fun w => !goodWord w), w ∈ B) (h3 : ∀ w ∈ B, w.before args s = true) : ∀ w ∈ L, w.before args s = true := by
  intro w hw
  by_cases g : goodWord w = true
  · exact h1 w (List.mem_filter.mpr ⟨hw, g⟩)
  · refine h3 w (h2 w (List.mem_filter.mpr ⟨hw, ?_⟩))
    show (!goodWord w) = true
    cases hgw : goodWord w
    · rfl
    · exact absurd hgw g
theorem vx_c {args : Array Value} {s : State} {w : Cond} {B : List Cond} (h : w.before args s = true) (t : ∀ w ∈ B, w.before args s = true) : ∀ w' ∈ w :: B, w'.before args s = true := fun w' h' => (List.mem_cons.mp h').elim (fun e => by rw [e]; exact h) (t w')
theorem vx_n {args : Array Value} {s : State} : ∀ w ∈ ([] : List Cond), w.before args s = true := fun _ h => nomatch h
theorem vx_own {args : Array Value} {s : State} {L : List Cond} (h1 : ∀ w ∈ L.filter vx_no, w.before args s = true)
    (hU : (Cond.isRef (.static Bundle.tN "UNASSIGNED_STACK" Bundle.steD)).before args s = true) (hN : (Cond.isRef (.static Bundle.tN "SUPPRESSED_SENTINEL" Bundle.listD)).before args s = true)
    (lU : (Cond.laysStatic Bundle.tN "UNASSIGNED_STACK" Bundle.steD).before args s = true) (lN : (Cond.laysStatic Bundle.tN "SUPPRESSED_SENTINEL" Bundle.listD).before args s = true) : ∀ w ∈ L, w.before args s = true := by
  intro w hw
  by_cases e1 : w = .isRef (.static Bundle.tN "UNASSIGNED_STACK" Bundle.steD)
  · rw [e1]; exact hU
  · by_cases e2 : w = .isRef (.static Bundle.tN "SUPPRESSED_SENTINEL" Bundle.listD)
    · rw [e2]; exact hN
    · by_cases e3 : w = .laysStatic Bundle.tN "UNASSIGNED_STACK" Bundle.steD
      · rw [e3]; exact lU
      · by_cases e4 : w = .laysStatic Bundle.tN "SUPPRESSED_SENTINEL" Bundle.listD
        · rw [e4]; exact lN
        · exact h1 w (List.mem_filter.mpr ⟨hw, by unfold vx_no; rw [decide_eq_true e1, decide_eq_true e2, decide_eq_true e3, decide_eq_true e4]; rfl⟩)
/-- where a static field lies, its class's statics cell in H -/
def vx_L (C n d : String) (A : Nat → Prop) (U : State) (H : Heap) : Prop := ∃ (c : ClassId) (k : Class) (i : Nat) (f : Field) (a : Nat) (cell : Cell), U.vm.findClass C = some c ∧ U.fieldFound? C n d = some (c, k, i, f) ∧ f.isStatic = true ∧ k.statics = some a ∧ H[a]? = some cell ∧ cell.vm.isStatics = true ∧ cell.cls = c ∧ f.slot < cell.slots.size ∧ k.staticTypes[f.slot]? = some f.type ∧ ¬ A a
theorem vx_L.moved {C n d : String} {A : Nat → Prop} {u U : State} {H : Heap} (hvm : u.vm.Alike U.vm) (h : vx_L C n d A u H) : vx_L C n d A U H := by
  obtain ⟨c, k, i, f, a, cell, h1, h2, h3, h4, h5, h6, h7, h8, h9, h10⟩ := h
  obtain ⟨k', hi', he⟩ := State.fieldFound?_setVm hvm h2
  exact ⟨c, k', i, f, a, cell, by rw [hvm.findClass]; exact h1, hi', h3, by rw [he]; exact h4, h5, h6, h7, h8, by rw [he]; exact h9, h10⟩
theorem vx_L.kept {C n d : String} {A : Nat → Prop} {U : State} {H H1 : Heap} (h : vx_L C n d A U H) (hq : ∀ a : Nat, a < H.size → ¬ A a → H1[a]? = H[a]?) : vx_L C n d A U H1 := by
  obtain ⟨c, k, i, f, a, cell, h1, h2, h3, h4, h5, h6, h7, h8, h9, h10⟩ := h
  exact ⟨c, k, i, f, a, cell, h1, h2, h3, h4, by rw [hq a (Array.getElem?_eq_some_iff.mp h5).1 h10]; exact h5, h6, h7, h8, h9, h10⟩
theorem vx_L.narrow {C n d : String} {A B : Nat → Prop} {U : State} {H : Heap} (h : vx_L C n d A U H) (hAB : ∀ q, B q → A q) : vx_L C n d B U H := by
  obtain ⟨c, k, i, f, a, cell, h1, h2, h3, h4, h5, h6, h7, h8, h9, h10⟩ := h
  exact ⟨c, k, i, f, a, cell, h1, h2, h3, h4, h5, h6, h7, h8, h9, fun z => h10 (hAB _ z)⟩
theorem vx_L.word {C n d : String} {A : Nat → Prop} {s : State} {args : Array Value} (h : vx_L C n d A s s.heap) : (Cond.laysStatic C n d).before args s = true := by
  obtain ⟨c, k, i, f, a, cell, h1, h2, h3, h4, h5, h6, h7, h8, h9, -⟩ := h
  show (Cond.laysStatic C n d).holds args s none s [] = true
  exact Cond.laysStatic_of h1 h2 h3 h4 h5 h6 h7 h8 h9
/-- .. and what it holds: null or some reference -/
def vx_Zq (C n d : String) (A : Nat → Prop) (U : State) (H : Heap) : Prop := va_Zq C n d A U H ∧ vx_L C n d A U H
theorem vx_Zq.moved {C n d : String} {A : Nat → Prop} {u U : State} {H : Heap} (hvm : u.vm.Alike U.vm) (h : vx_Zq C n d A u H) : vx_Zq C n d A U H := ⟨va_Zq.moved hvm h.1, vx_L.moved hvm h.2⟩
theorem vx_Zq.kept {C n d : String} {A : Nat → Prop} {U : State} {H H1 : Heap} (h : vx_Zq C n d A U H) (hq : ∀ a : Nat, a < H.size → ¬ A a → H1[a]? = H[a]?) : vx_Zq C n d A U H1 := ⟨va_Zq.kept h.1 hq, vx_L.kept h.2 hq⟩
theorem vx_Zq.narrow {C n d : String} {A B : Nat → Prop} {U : State} {H : Heap} (h : vx_Zq C n d A U H) (hAB : ∀ q, B q → A q) : vx_Zq C n d B U H := ⟨va_Zq.narrow h.1 hAB, vx_L.narrow h.2 hAB⟩
theorem vx_Zqof {args : Array Value} {s : State} {C n d : String} {A : Nat → Prop} (hl : (Cond.laysStatic C n d).before args s = true) (hini : (Cond.initialized C).before args s = true) (h : (Cond.isRef (.static C n d)).before args s = true) (hA : ∀ a : Nat, a < s.heap.size → ¬ A a) : vx_Zq C n d A s s.heap := by
  refine ⟨va_Zqof hl hini h hA, ?_⟩
  obtain ⟨c, k, i, f, a, cell, h1, h2, h3, h4, h5, h6, h7, h8, h9⟩ := Cond.laysStatic_spec hl
  exact ⟨c, k, i, f, a, cell, h1, h2, h3, h4, h5, h6, h7, h8, h9, hA a (Array.getElem?_eq_some_iff.mp h5).1⟩
theorem vx_isRef {C n d : String} {v : Value} {A : Nat → Prop} {s : State} {args : Array Value} (h : va_Z C n d v A s s.heap) (hv : v.isRef = true) : (Cond.isRef (.static C n d)).before args s = true := by
  obtain ⟨cf, kf, fi, f, a, cell, h1, h2, h3, h4, h5, h6, h7, -⟩ := h
  have he : (Term.static C n d).eval args s none [] s = some v := by
    simp [Term.eval, State.fieldNamed?, h1, h2, h4, h5, h6, h7]
  simp only [Cond.before, Cond.holds, Cond.value, he]
  cases v <;> simp_all [Value.isRef]
theorem vx_isRefq {C n d : String} {A : Nat → Prop} {s : State} {args : Array Value} (h : va_Zq C n d A s s.heap) : (Cond.isRef (.static C n d)).before args s = true := by
  rcases h with h | ⟨t, h⟩
  · exact vx_isRef h rfl
  · exact vx_isRef h rfl
/-- the same frame, seen from here: as if the method were called anew in this heap -/
theorem vx_rebase {T : State} (X : Stand p l e R s m args below meth c T locs cells slots) {R' : Room} (hf : R'.frames ≤ R.frames) (hl : R'.locals ≤ R.locals) (hc : cells + R'.cells ≤ R.cells) (hs : slots + R'.slots ≤ R.slots) :
    Stand p l e R' ((T.setVm s.vm).setFrames (.invoking m args :: below)) m args below meth c T [] 0 0 := by
  have htop : (T.setVm s.vm).topJava?.isSome := X.here.top
  have hF : ((T.setVm s.vm).setFrames (.invoking m args :: below)).frames = .invoking m args :: below := State.frames_setFrames _ (State.cur_lt_of_top htop)
  obtain ⟨g₀, hg0⟩ := Option.isSome_iff_exists.mp htop
  obtain ⟨r, hr⟩ := State.topJava?_eq_some.mp hg0
  have hl9 : e.platform.stackLimits (T.setVm s.vm).me = e.platform.stackLimits s.me := X.limits
  have hb9 : (T.setVm s.vm).me.stackBytes = s.me.stackBytes := X.bytes
  refine ⟨X.admits, X.cas, X.clock, hF, ?_, X.hears, X.method, X.code, X.here, X.tail, X.warmed, ?_, ?_, ?_⟩
  · have h := X.room
    have hU : ((T.setVm s.vm).setFrames (.invoking m args :: below)).localsInUse = s.localsInUse := by
      rw [State.localsInUse_invoking hF (meth := meth) (c := c) X.method X.code, State.localsInUse_invoking X.frames X.method X.code]
    simp only [State.hasRoom, Bool.and_eq_true, decide_eq_true_eq] at h ⊢
    obtain ⟨⟨⟨⟨h1, h2, h3, h4, h5, h6⟩, h7⟩, h8⟩, h9⟩ := h
    rw [X.frames, List.length_cons] at h2 h3
    have q1 := X.heapSize
    have q2 := X.used
    simp only [hF, hU, List.length_cons, State.stackLimits_setFrames, State.stackBytes_setFrames, hl9, hb9]
    refine ⟨⟨⟨⟨by omega, by omega, by omega, by omega, by omega, h6⟩, ?_⟩, ?_⟩, X.book⟩
    · show T.heap.size + R'.cells ≤ e.platform.maxCells
      omega
    · show T.slotsUsed + R'.slots ≤ e.platform.maxSlots
      omega
  · rw [State.stackLimits_setFrames]; rfl
  · rw [State.stackBytes_setFrames]; rfl
  · refine ⟨?_, Nat.le_refl _, Nat.le_refl _, ?_, ?_, fun a c9 h9 => ⟨c9, h9, rfl, rfl, fun _ _ => rfl⟩⟩
    · obtain ⟨t, ht, -⟩ := State.frames_cons hr
      show T.setVm s.vm = { ((T.setVm s.vm).setFrames (.invoking m args :: below)).setFrames (T.setVm s.vm).frames with heap := T.heap, slotsUsed := T.slotsUsed }
      rw [State.setFrames_setFrames, State.setFrames_self ht]
      rfl
    · show T.slotsUsed = T.slotsUsed + ((T.heap.toList.drop T.heap.size).map (·.slots.size)).sum
      rw [List.drop_eq_nil_of_le (Nat.le_of_eq Array.length_toList)]
      rfl
    · show ((T.heap.toList.drop T.heap.size).map (·.slots.size)).sum ≤ 0
      rw [List.drop_eq_nil_of_le (Nat.le_of_eq Array.length_toList)]
      exact Nat.le_refl _
/-- 'throw new E()': new; dup; invokespecial; athrow -/
theorem vx_throw0 {cc : ByteArray} {pc : Nat} (hexec : p.tables.exec = Jvm.exec) (hb : c.code = cc) (hl : l.stackTraces = false) {own cls : String} {names : List String} {ik ic mc ms : Nat} {A : Nat → Prop}
    (hown : s.vm.findClass own = some m.cls) (hcls : Bundle.fit cls = true) (hnames : ∀ n ∈ names, Bundle.fit n = true)
    (hk : (Cond.classLink own ik cls).before args s = true) (hini : (Cond.initialized cls).before args s = true) (hat : ∀ w ∈ vx_at0 own ic cls names, w.before args s = true)
    (hgood : ∀ w ∈ Cond.classLink own ik cls :: Cond.initialized cls :: vx_at0 own ic cls names, vx_ot w = true)
    (hU : vx_Zq Bundle.tN "UNASSIGNED_STACK" Bundle.steD A s s.heap) (hN : vx_Zq Bundle.tN "SUPPRESSED_SENTINEL" Bundle.listD A s s.heap) (hS : va_S A s.heap H locs) (hsize : ls.size = c.maxLocals)
    (d0 : decode cc pc = .ok (.new ik, 3)) (d3 : decode cc (pc + 3) = .ok (.dup, 1)) (d4 : decode cc (pc + 4) = .ok (.invokespecial ic, 3)) (d7 : decode cc (pc + 7) = .ok (.athrow, 1))
    (hout : ∀ x ∈ c.exceptionTable.toList, covers x (pc + 7) = false)
    (hRframes : names.length + 3 < R.frames) (hRlocals : (rest.map fun v => v.category).sum + (13 * (names.length + 1) + 42) ≤ R.locals) (hRcells : cells + 1 ≤ R.cells) (hRslots : slots + 6 ≤ R.slots) (hlocks : meth.locks = false)
    (hx : ∀ t : State, s.vm.Alike t.vm → H.size ≤ t.heap.size → (∀ q : Nat, q < H.size → t.heap[q]? = H[q]?) → XC cls s t)
    (hf : ∀ z ∈ locs, free z.base) (hc : cells + 1 ≤ mc) (hs : slots + 6 ≤ ms) :
    W p l e R s m args below meth c H locs cells slots (vx_MQ below Qc XC args s mc ms free) (F0 m pc ls rest) := by
  intro T hT X
  have htr : e.platform.stackTraces = false := (show e.platform.stackTraces = l.stackTraces by rw [X.admits.platform]).trans hl
  have Y := vx_rebase X (R' := { frames := R.frames, locals := R.locals, cells := 1, slots := 6 }) (Nat.le_refl _) (Nat.le_refl _) hRcells hRslots
  obtain ⟨s', hA⟩ : ∃ z, z = (T.setVm s.vm).setFrames (.invoking m args :: below) := ⟨_, rfl⟩
  rw [← hA] at Y
  have hvm : s'.vm = s.vm := by rw [hA]; rfl
  have hhp : s'.heap = H := by rw [hA]; exact hT
  have hW0 : s.WarmedH s'.vm := by rw [hvm]; exact State.WarmedH.refl s
  have hat' : ∀ w ∈ vx_at0 own ic cls names, w.before args s' = true := fun w hw => vx_ot_at hW0 hvm.symm (hgood w (List.mem_cons_of_mem _ (List.mem_cons_of_mem _ hw))) (hat w hw)
  have hk' : (Cond.classLink own ik cls).before args s' = true := vx_ot_at hW0 hvm.symm (hgood _ List.mem_cons_self) hk
  have hini' : (Cond.initialized cls).before args s' = true := vx_ot_at hW0 hvm.symm (hgood _ (List.mem_cons_of_mem _ List.mem_cons_self)) hini
  have hU' : vx_Zq Bundle.tN "UNASSIGNED_STACK" Bundle.steD A s' s'.heap := by rw [hhp]; exact vx_Zq.moved hW0.alike (hU.kept hS.2.1)
  have hN' : vx_Zq Bundle.tN "SUPPRESSED_SENTINEL" Bundle.listD A s' s'.heap := by rw [hhp]; exact vx_Zq.moved hW0.alike (hN.kept hS.2.1)
  have h : ∀ w ∈ Bundle.ownAtoms0 own ic cls names, w.before args s' = true := vx_own hat' (vx_isRefq hU'.1) (vx_isRefq hN'.1) hU'.2.word hN'.2.word
  have hown' : s'.vm.findClass own = some m.cls := by rw [hvm]; exact hown
  have hins : (Cond.instantiable cls 6).before args s' = true := h _ (by simp [Bundle.ownAtoms0])
  obtain ⟨vm₁, cX, kX, hfX, hkX, -, -, X₁, st1⟩ := Y.newCold hexec (own := own) (C := cls) (index := ik) (n := 6) hown' hk' hins hini'
    (g := F0 m pc ls rest) rfl (by rw [hb]; exact d0) (Nat.le_refl _) (Nat.le_refl _)
  generalize hT1 : (T.setVm vm₁).pushCell { cls := cX, slots := kX.instanceTypes.map defaultValue, vm := .none } = T1 at X₁ st1
  have hcat : (Value.ref T.heap.size).category = 1 := rfl
  have hcellA : T1.heap[T.heap.size]? = some (freshCell cX kX) := by rw [← hT1]; exact State.heap_pushCell_size _ _
  have d3' : decode c.code (pc + 3) = .ok (.dup, 1) := by rw [hb]; exact d3
  obtain ⟨U, hsteps, hrun, hend, hW, hsame, ce, hce, hO⟩ := X₁.ctorThrow0 hexec htr (own := own) (cls := cls) (names := names) (ic := ic) hown' hcls hnames h (fun x hx => nomatch hx) hfX hkX hcellA (by rw [hhp, hT]; exact Nat.le_refl _)
    (g := { method := m, pc := pc + 4, locals := ls, stack := .ref T.heap.size :: .ref T.heap.size :: rest, locked := none }) rfl hsize rfl rfl (rest := rest) rfl
    (by rw [hb]; exact d4) (by rw [hb]; exact d7) hout hRframes (by simp only [List.map_cons, List.sum_cons, hcat]; omega) hlocks
  obtain ⟨f1, f2⟩ := vx_frame hsame
  rw [hhp] at f1 f2
  have hWs : s.WarmedH U.vm := State.WarmedH.trans hW0 hW
  have hcl : s.vm.findClass cls = some ce.cls := by
    have h9 := hO.cls
    rw [hvm] at h9
    exact h9
  have hall : s.sameButNew ({ U with vm := s.vm } : State) locs mc ms := by
    subst hA
    obtain ⟨e1, e2⟩ := hsame
    rw [State.setFrames_setFrames] at e1
    have h2 : (T.setVm s.vm).sameButNew ({ U with vm := s.vm } : State) [] (0 + 1) (0 + 6) := ⟨e1, e2⟩
    have h3 := X.same.trans h2
    rw [List.append_nil] at h3
    exact h3.mono hc hs
  refine ⟨U, ?_, .threw T.heap.size, hrun, hend, Or.inr ⟨T.heap.size, rfl, cls, ce, locs, hx U hWs.alike f1 (fun q hq => f2 q hq (fun z hz => nomatch hz)), hce, hO.vm, hcl, hWs, hall, hf⟩⟩
  refine st1 _ ?_
  show Steps p.tables e below (T1.setTop { method := m, pc := pc + 3, locals := ls, stack := .ref T.heap.size :: rest, locked := none }) _
  jvm_step X₁.here [X₁.here.top, hexec, d3', Value.category]
  exact hsteps
/-- 'throw new E("text")': new; dup; ldc; invokespecial; athrow -/
theorem vx_throwS {cc : ByteArray} {pc : Nat} (hexec : p.tables.exec = Jvm.exec) (hb : c.code = cc) (hl : l.stackTraces = false) {own cls text : String} {names : List String} {ik is ic mc ms sa : Nat} {A : Nat → Prop}
    (hown : s.vm.findClass own = some m.cls) (hcls : Bundle.fit cls = true) (hnames : ∀ n ∈ names, Bundle.fit n = true)
    (hk : (Cond.classLink own ik cls).before args s = true) (hini : (Cond.initialized cls).before args s = true) (hstr : vk_R own is text sa s) (hat : ∀ w ∈ vx_atS own ic cls names, w.before args s = true)
    (hgood : ∀ w ∈ Cond.classLink own ik cls :: Cond.initialized cls :: vx_atS own ic cls names, vx_ot w = true)
    (hU : vx_Zq Bundle.tN "UNASSIGNED_STACK" Bundle.steD A s s.heap) (hN : vx_Zq Bundle.tN "SUPPRESSED_SENTINEL" Bundle.listD A s s.heap) (hS : va_S A s.heap H locs) (hsize : ls.size = c.maxLocals)
    (d0 : decode cc pc = .ok (.new ik, 3)) (d3 : decode cc (pc + 3) = .ok (.dup, 1)) (d4 : decode cc (pc + 4) = .ok (.ldc is, 2)) (d6 : decode cc (pc + 6) = .ok (.invokespecial ic, 3)) (d9 : decode cc (pc + 9) = .ok (.athrow, 1))
    (hout : ∀ x ∈ c.exceptionTable.toList, covers x (pc + 9) = false)
    (hRframes : names.length + 3 < R.frames) (hRlocals : (rest.map fun v => v.category).sum + (13 * (names.length + 1) + 43) ≤ R.locals) (hRcells : cells + 1 ≤ R.cells) (hRslots : slots + 6 ≤ R.slots) (hlocks : meth.locks = false)
    (hx : ∀ t : State, s.vm.Alike t.vm → H.size ≤ t.heap.size → (∀ q : Nat, q < H.size → t.heap[q]? = H[q]?) → XC cls s t)
    (hf : ∀ z ∈ locs, free z.base) (hc : cells + 1 ≤ mc) (hs : slots + 6 ≤ ms) :
    W p l e R s m args below meth c H locs cells slots (vx_MQ below Qc XC args s mc ms free) (F0 m pc ls rest) := by
  intro T hT X
  have htr : e.platform.stackTraces = false := (show e.platform.stackTraces = l.stackTraces by rw [X.admits.platform]).trans hl
  have Y := vx_rebase X (R' := { frames := R.frames, locals := R.locals, cells := 1, slots := 6 }) (Nat.le_refl _) (Nat.le_refl _) hRcells hRslots
  obtain ⟨s', hA⟩ : ∃ z, z = (T.setVm s.vm).setFrames (.invoking m args :: below) := ⟨_, rfl⟩
  rw [← hA] at Y
  have hvm : s'.vm = s.vm := by rw [hA]; rfl
  have hhp : s'.heap = H := by rw [hA]; exact hT
  have hW0 : s.WarmedH s'.vm := by rw [hvm]; exact State.WarmedH.refl s
  have hat' : ∀ w ∈ vx_atS own ic cls names, w.before args s' = true := fun w hw => vx_ot_at hW0 hvm.symm (hgood w (List.mem_cons_of_mem _ (List.mem_cons_of_mem _ hw))) (hat w hw)
  have hk' : (Cond.classLink own ik cls).before args s' = true := vx_ot_at hW0 hvm.symm (hgood _ List.mem_cons_self) hk
  have hini' : (Cond.initialized cls).before args s' = true := vx_ot_at hW0 hvm.symm (hgood _ (List.mem_cons_of_mem _ List.mem_cons_self)) hini
  have hU' : vx_Zq Bundle.tN "UNASSIGNED_STACK" Bundle.steD A s' s'.heap := by rw [hhp]; exact vx_Zq.moved hW0.alike (hU.kept hS.2.1)
  have hN' : vx_Zq Bundle.tN "SUPPRESSED_SENTINEL" Bundle.listD A s' s'.heap := by rw [hhp]; exact vx_Zq.moved hW0.alike (hN.kept hS.2.1)
  have h : ∀ w ∈ Bundle.ownAtoms own ic cls names, w.before args s' = true := vx_own hat' (vx_isRefq hU'.1) (vx_isRefq hN'.1) hU'.2.word hN'.2.word
  have hown' : s'.vm.findClass own = some m.cls := by rw [hvm]; exact hown
  have hins : (Cond.instantiable cls 6).before args s' = true := h _ (by simp [Bundle.ownAtoms])
  obtain ⟨vm₁, cX, kX, hfX, hkX, -, -, X₁, st1⟩ := Y.newCold hexec (own := own) (C := cls) (index := ik) (n := 6) hown' hk' hins hini'
    (g := F0 m pc ls rest) rfl (by rw [hb]; exact d0) (Nat.le_refl _) (Nat.le_refl _)
  generalize hT1 : (T.setVm vm₁).pushCell { cls := cX, slots := kX.instanceTypes.map defaultValue, vm := .none } = T1 at X₁ st1
  have hcat : (Value.ref T.heap.size).category = 1 := rfl
  have hcellA : T1.heap[T.heap.size]? = some (freshCell cX kX) := by rw [← hT1]; exact State.heap_pushCell_size _ _
  have d3' : decode c.code (pc + 3) = .ok (.dup, 1) := by rw [hb]; exact d3
  have d4' : decode c.code (pc + 4) = .ok (.ldc is, 2) := by rw [hb]; exact d4
  have hstr' : vk_R own is text sa s' := vk_R.warm hW0 hstr
  obtain ⟨U, hsteps, hrun, hend, hW, hsame, ce, hce, hO⟩ := X₁.ctorThrowS hexec htr (own := own) (cls := cls) (names := names) (ic := ic) hown' hcls hnames h (fun x hx => nomatch hx) hfX hkX hcellA (by rw [hhp, hT]; exact Nat.le_refl _) (msg := .ref sa) rfl
    (g := { method := m, pc := pc + 6, locals := ls, stack := .ref sa :: .ref T.heap.size :: .ref T.heap.size :: rest, locked := none }) rfl hsize rfl rfl (rest := rest) rfl
    (by rw [hb]; exact d6) (by rw [hb]; exact d9) hout hRframes (by simp only [List.map_cons, List.sum_cons, hcat]; omega) hlocks
  obtain ⟨f1, f2⟩ := vx_frame hsame
  rw [hhp] at f1 f2
  have hWs : s.WarmedH U.vm := State.WarmedH.trans hW0 hW
  have hcl : s.vm.findClass cls = some ce.cls := by
    have h9 := hO.cls
    rw [hvm] at h9
    exact h9
  have hall : s.sameButNew ({ U with vm := s.vm } : State) locs mc ms := by
    subst hA
    obtain ⟨e1, e2⟩ := hsame
    rw [State.setFrames_setFrames] at e1
    have h2 : (T.setVm s.vm).sameButNew ({ U with vm := s.vm } : State) [] (0 + 1) (0 + 6) := ⟨e1, e2⟩
    have h3 := X.same.trans h2
    rw [List.append_nil] at h3
    exact h3.mono hc hs
  refine ⟨U, ?_, .threw T.heap.size, hrun, hend, Or.inr ⟨T.heap.size, rfl, cls, ce, locs, hx U hWs.alike f1 (fun q hq => f2 q hq (fun z hz => nomatch hz)), hce, hO.vm, hcl, hWs, hall, hf⟩⟩
  refine st1 _ ?_
  show Steps p.tables e below (T1.setTop { method := m, pc := pc + 3, locals := ls, stack := .ref T.heap.size :: rest, locked := none }) _
  jvm_step X₁.here [X₁.here.top, hexec, d3', Value.category]
  exact X₁.ldcString hexec (own := own) (text := text) (index := is) (a := sa) hown' hstr'.1 hstr'.2
    (g := { method := m, pc := pc + 4, locals := ls, stack := .ref T.heap.size :: .ref T.heap.size :: rest, locked := none }) rfl d4' _ hsteps
/-- 'throw new E("text")', the text by a wide index -/
theorem vx_throwSW {cc : ByteArray} {pc : Nat} (hexec : p.tables.exec = Jvm.exec) (hb : c.code = cc) (hl : l.stackTraces = false) {own cls text : String} {names : List String} {ik is ic mc ms sa : Nat} {A : Nat → Prop}
    (hown : s.vm.findClass own = some m.cls) (hcls : Bundle.fit cls = true) (hnames : ∀ n ∈ names, Bundle.fit n = true)
    (hk : (Cond.classLink own ik cls).before args s = true) (hini : (Cond.initialized cls).before args s = true) (hstr : vk_R own is text sa s) (hat : ∀ w ∈ vx_atS own ic cls names, w.before args s = true)
    (hgood : ∀ w ∈ Cond.classLink own ik cls :: Cond.initialized cls :: vx_atS own ic cls names, vx_ot w = true)
    (hU : vx_Zq Bundle.tN "UNASSIGNED_STACK" Bundle.steD A s s.heap) (hN : vx_Zq Bundle.tN "SUPPRESSED_SENTINEL" Bundle.listD A s s.heap) (hS : va_S A s.heap H locs) (hsize : ls.size = c.maxLocals)
    (d0 : decode cc pc = .ok (.new ik, 3)) (d3 : decode cc (pc + 3) = .ok (.dup, 1)) (d4 : decode cc (pc + 4) = .ok (.ldc_w is, 3)) (d7 : decode cc (pc + 7) = .ok (.invokespecial ic, 3)) (d10 : decode cc (pc + 10) = .ok (.athrow, 1))
    (hout : ∀ x ∈ c.exceptionTable.toList, covers x (pc + 10) = false)
    (hRframes : names.length + 3 < R.frames) (hRlocals : (rest.map fun v => v.category).sum + (13 * (names.length + 1) + 43) ≤ R.locals) (hRcells : cells + 1 ≤ R.cells) (hRslots : slots + 6 ≤ R.slots) (hlocks : meth.locks = false)
    (hx : ∀ t : State, s.vm.Alike t.vm → H.size ≤ t.heap.size → (∀ q : Nat, q < H.size → t.heap[q]? = H[q]?) → XC cls s t)
    (hf : ∀ z ∈ locs, free z.base) (hc : cells + 1 ≤ mc) (hs : slots + 6 ≤ ms) :
    W p l e R s m args below meth c H locs cells slots (vx_MQ below Qc XC args s mc ms free) (F0 m pc ls rest) := by
  intro T hT X
  have htr : e.platform.stackTraces = false := (show e.platform.stackTraces = l.stackTraces by rw [X.admits.platform]).trans hl
  have Y := vx_rebase X (R' := { frames := R.frames, locals := R.locals, cells := 1, slots := 6 }) (Nat.le_refl _) (Nat.le_refl _) hRcells hRslots
  obtain ⟨s', hA⟩ : ∃ z, z = (T.setVm s.vm).setFrames (.invoking m args :: below) := ⟨_, rfl⟩
  rw [← hA] at Y
  have hvm : s'.vm = s.vm := by rw [hA]; rfl
  have hhp : s'.heap = H := by rw [hA]; exact hT
  have hW0 : s.WarmedH s'.vm := by rw [hvm]; exact State.WarmedH.refl s
  have hat' : ∀ w ∈ vx_atS own ic cls names, w.before args s' = true := fun w hw => vx_ot_at hW0 hvm.symm (hgood w (List.mem_cons_of_mem _ (List.mem_cons_of_mem _ hw))) (hat w hw)
  have hk' : (Cond.classLink own ik cls).before args s' = true := vx_ot_at hW0 hvm.symm (hgood _ List.mem_cons_self) hk
  have hini' : (Cond.initialized cls).before args s' = true := vx_ot_at hW0 hvm.symm (hgood _ (List.mem_cons_of_mem _ List.mem_cons_self)) hini
  have hU' : vx_Zq Bundle.tN "UNASSIGNED_STACK" Bundle.steD A s' s'.heap := by rw [hhp]; exact vx_Zq.moved hW0.alike (hU.kept hS.2.1)
  have hN' : vx_Zq Bundle.tN "SUPPRESSED_SENTINEL" Bundle.listD A s' s'.heap := by rw [hhp]; exact vx_Zq.moved hW0.alike (hN.kept hS.2.1)
  have h : ∀ w ∈ Bundle.ownAtoms own ic cls names, w.before args s' = true := vx_own hat' (vx_isRefq hU'.1) (vx_isRefq hN'.1) hU'.2.word hN'.2.word
  have hown' : s'.vm.findClass own = some m.cls := by rw [hvm]; exact hown
  have hins : (Cond.instantiable cls 6).before args s' = true := h _ (by simp [Bundle.ownAtoms])
  obtain ⟨vm₁, cX, kX, hfX, hkX, -, -, X₁, st1⟩ := Y.newCold hexec (own := own) (C := cls) (index := ik) (n := 6) hown' hk' hins hini'
    (g := F0 m pc ls rest) rfl (by rw [hb]; exact d0) (Nat.le_refl _) (Nat.le_refl _)
  generalize hT1 : (T.setVm vm₁).pushCell { cls := cX, slots := kX.instanceTypes.map defaultValue, vm := .none } = T1 at X₁ st1
  have hcat : (Value.ref T.heap.size).category = 1 := rfl
  have hcellA : T1.heap[T.heap.size]? = some (freshCell cX kX) := by rw [← hT1]; exact State.heap_pushCell_size _ _
  have d3' : decode c.code (pc + 3) = .ok (.dup, 1) := by rw [hb]; exact d3
  have d4' : decode c.code (pc + 4) = .ok (.ldc_w is, 3) := by rw [hb]; exact d4
  have hstr' : vk_R own is text sa s' := vk_R.warm hW0 hstr
  obtain ⟨U, hsteps, hrun, hend, hW, hsame, ce, hce, hO⟩ := X₁.ctorThrowS hexec htr (own := own) (cls := cls) (names := names) (ic := ic) hown' hcls hnames h (fun x hx => nomatch hx) hfX hkX hcellA (by rw [hhp, hT]; exact Nat.le_refl _) (msg := .ref sa) rfl
    (g := { method := m, pc := pc + 7, locals := ls, stack := .ref sa :: .ref T.heap.size :: .ref T.heap.size :: rest, locked := none }) rfl hsize rfl rfl (rest := rest) rfl
    (by rw [hb]; exact d7) (by rw [hb]; exact d10) hout hRframes (by simp only [List.map_cons, List.sum_cons, hcat]; omega) hlocks
  obtain ⟨f1, f2⟩ := vx_frame hsame
  rw [hhp] at f1 f2
  have hWs : s.WarmedH U.vm := State.WarmedH.trans hW0 hW
  have hcl : s.vm.findClass cls = some ce.cls := by
    have h9 := hO.cls
    rw [hvm] at h9
    exact h9
  have hall : s.sameButNew ({ U with vm := s.vm } : State) locs mc ms := by
    subst hA
    obtain ⟨e1, e2⟩ := hsame
    rw [State.setFrames_setFrames] at e1
    have h2 : (T.setVm s.vm).sameButNew ({ U with vm := s.vm } : State) [] (0 + 1) (0 + 6) := ⟨e1, e2⟩
    have h3 := X.same.trans h2
    rw [List.append_nil] at h3
    exact h3.mono hc hs
  refine ⟨U, ?_, .threw T.heap.size, hrun, hend, Or.inr ⟨T.heap.size, rfl, cls, ce, locs, hx U hWs.alike f1 (fun q hq => f2 q hq (fun z hz => nomatch hz)), hce, hO.vm, hcl, hWs, hall, hf⟩⟩
  refine st1 _ ?_
  show Steps p.tables e below (T1.setTop { method := m, pc := pc + 3, locals := ls, stack := .ref T.heap.size :: rest, locked := none }) _
  jvm_step X₁.here [X₁.here.top, hexec, d3', Value.category]
  exact X₁.ldcStringW hexec (own := own) (text := text) (index := is) (a := sa) hown' hstr'.1 hstr'.2
    (g := { method := m, pc := pc + 4, locals := ls, stack := .ref T.heap.size :: .ref T.heap.size :: rest, locked := none }) rfl d4' _ hsteps
end Ends
section Bodies
variable {l : Launch}
theorem vx_ofW {y : MethodName} {ws ws' : List Cond} {rm : Room} {Pc : Array Value → State → Prop} {Qc : Array Value → State → Outcome → State → Prop} {XC : String → State → State → Prop} {mc ms : Nat} {free : Addr → Prop} {cc : ByteArray} {maxL : Nat} {ret : Option FieldType}
    (hy : plainName y.cls = true) (hw : ws = Cond.code y cc maxL ret :: ws')
    (body : ∀ p e s m args below meth c s₁, BodyLoose p l y (headSpec ws rm) cc maxL ret e s m args below meth c s₁ → c.maxLocals = maxL → (∀ x ∈ c.exceptionTable.toList, False) → Pc args s →
      W p l e (headSpec ws rm).room s m args below meth c s.heap [] 0 0 (vx_MQ below Qc XC args s mc ms free) (entryFrame m args maxL)) : vx_Met l y ws rm Pc Qc XC mc ms free := by
  refine MetFree.of_bodyS (code := cc) (maxLocals := maxL) (ret := ret) hy ?_ ?_
  · intro args s m h hn
    obtain ⟨meth, c, h1, h2, h3, h4, h5, h6, -, -⟩ := Cond.code_spec hn (atoms_spec (ws := ws) h _ (by rw [hw]; exact List.mem_cons_self))
    exact ⟨meth, c, h1, h2, h3, h4, h5, h6⟩
  · intro p e s m args below meth c s₁ B hml hP _
    have hh0 : s₁.heap = s.heap := by rw [B.state]; rfl
    have ht : ∀ x ∈ c.exceptionTable.toList, False := by
      obtain ⟨meth9, c9, h1, h2, -, -, -, -, h7, -⟩ := Cond.code_spec B.named (atoms_spec (ws := ws) B.pre _ (by rw [hw]; exact List.mem_cons_self))
      cases Option.some.inj (h1.symm.trans B.method)
      cases Option.some.inj (h2.symm.trans (Stand.of_body B).code)
      intro x hx
      rw [Array.isEmpty_iff.mp h7] at hx
      cases hx
    obtain ⟨t, a1, o, b1, b2, b3⟩ := body p e s m args below meth c s₁ B hml ht hP s₁ hh0 (Stand.of_body B)
    exact ⟨t, o, a1, b1, b2, b3⟩
/-- the table of a body with handlers -/
theorem vx_table {p : Program} {x y : MethodName} {S : Spec} {cc bytes : ByteArray} {maxL maxL' : Nat} {ret ret' : Option FieldType} {e : Env} {s s₁ : State} {m : MethodId} {args : Array Value} {below : List Frame} {meth : Method} {c : Code} {hh : List (Nat × Nat × Nat × Nat)}
    (B : BodyLoose p l y S cc maxL ret e s m args below meth c s₁) (h : (Cond.codeWith y bytes maxL' ret' hh).before args s = true) : c.exceptionTable.toList = tableOf hh := by
  obtain ⟨m9, meth9, c9, hn9, h1, h2, -, -, h6, -⟩ := Cond.codeWith_spec h
  cases Option.some.inj (hn9.symm.trans B.named)
  cases Option.some.inj (h1.symm.trans B.method)
  cases Option.some.inj (h2.symm.trans (Stand.of_body B).code)
  rw [← h6, table_eq]
end Bodies
end VXA
/-! ===== END ===== -/
/-! ===== BEGIN a static call of a method with an exception table ===== -/
section VXS
variable {p : Program} {l : Launch} {e : Env} {R : Room} {s : State} {m : MethodId} {args : Array Value} {below : List Frame} {meth : Method} {c : Code} {T : State} {H : Heap} {locs : List Loc} {cells slots : Nat}
abbrev vx_CSW (R : Room) (s : State) (args : Array Value) (own : String) (index : Nat) (y : MethodName) (bytes : ByteArray) (maxL : Nat) (ret : Option FieldType) (hh : List (Nat × Nat × Nat × Nat)) (ws : List Cond) (rm : Room) (mc ms n : Nat) : Prop :=
  (rm.cells = mc ∧ rm.slots = ms ∧ rm.frames + 1 ≤ R.frames ∧ 8 + (maxL + 11) + rm.locals ≤ R.locals ∧ (∀ w ∈ ws, ∀ (a' : Array Value) (U : State), s.WarmedH U.vm → w.before a' U = true) ∧ Cond.codeWith y bytes maxL ret hh ∈ ws) ∧
  (Cond.codeWith y bytes maxL ret hh).before args s = true ∧ (Cond.initialized y.cls).before args s = true ∧ (y.cls ≠ "java/lang/invoke/MethodHandle" ∧ y.cls ≠ "java/lang/invoke/VarHandle") ∧
  (∀ sig, parseMethodDescriptor y.desc = some sig → n = sig.parameters.length) ∧ (Cond.methodLink own index y).before args s = true ∧ (Cond.static y).before args s = true
theorem vx_cwSW {own : String} {index maxL mc ms : Nat} {y : MethodName} {bytes : ByteArray} {ret : Option FieldType} {hh : List (Nat × Nat × Nat × Nat)} {Ts ws ws' : List Cond} {rm : Room} (n : Nat) (ht : ∀ w ∈ Ts, w.before args s = true) (hT : GoodIn Ts (va_wsS own index y ws)) (hw : ws = Cond.codeWith y bytes maxL ret hh :: ws') (hrc : rm.cells = mc) (hrs : rm.slots = ms)
    (hd : y.cls ≠ "java/lang/invoke/MethodHandle" ∧ y.cls ≠ "java/lang/invoke/VarHandle" ∧ (parseMethodDescriptor y.desc).map (fun d => d.parameters.length) = some n) (hR : rm.frames + 1 ≤ R.frames ∧ 8 + (maxL + 11) + rm.locals ≤ R.locals) :
    vx_CSW R s args own index y bytes maxL ret hh ws rm mc ms n := by
  have ok : ∀ w ∈ va_wsS own index y ws, w.before args s = true := fun w h => ht w (hT w h).1
  have hG : GoodIn Ts ws := fun w h => hT w (by unfold va_wsS; exact List.mem_append_right _ h)
  have hc : Cond.codeWith y bytes maxL ret hh ∈ ws := by rw [hw]; exact List.mem_cons_self
  refine ⟨⟨hrc, hrs, hR.1, hR.2, pay_in ht hG, hc⟩, ht _ (hG _ hc).1, ok _ (by simp [va_wsS]), ⟨hd.1, hd.2.1⟩, fun sig h => ?_, ok _ (by simp [va_wsS]), ok _ (by simp [va_wsS])⟩
  have h2 := hd.2.2
  rw [h] at h2
  exact (Option.some.inj h2).symm
theorem vx_callSW (X : Stand p l e R s m args below meth c T locs cells slots) (hexec : p.tables.exec = Jvm.exec) {own : String} {index : Nat} {y : MethodName} {bytes : ByteArray} {maxL : Nat} {ret : Option FieldType} {hh : List (Nat × Nat × Nat × Nat)}
    (hown : s.vm.findClass own = some m.cls) (hlink : (Cond.methodLink own index y).before args s = true) (hstat : (Cond.static y).before args s = true) (hinit : (Cond.initialized y.cls).before args s = true)
    (hcode : (Cond.codeWith y bytes maxL ret hh).before args s = true) (hy : y.cls ≠ "java/lang/invoke/MethodHandle" ∧ y.cls ≠ "java/lang/invoke/VarHandle")
    {W9 : Nat} {Pre : Pt → Array Value → Prop} {Post : Pt → Array Value → Option Value → Pt → Prop} (hK : Back l R p e below s args y 3 W9 Pre Post)
    {g : JFrame} (hg : g.method = m) (hsize : g.locals.size = c.maxLocals) {argsL rest : List Value} (hlen : ∀ sig, parseMethodDescriptor y.desc = some sig → argsL.length = sig.parameters.length)
    (hstack : g.stack = argsL.reverse ++ rest) (hW : 2 * g.monitorRoom + (rest.map fun v => v.category).sum ≤ W9) (hdg : decode c.code g.pc = .ok (.invokestatic index, 3))
    (hpre : ∀ vm₁, s.WarmedH vm₁ → Pre ⟨T.setVm vm₁, locs, cells, slots⟩ argsL.toArray) :
    ∃ (v : Option Value) (vm₁ : Vm) (B : Pt), s.WarmedH vm₁ ∧ Stand p l e R s m args below meth c B.U B.locs B.cells B.slots ∧ Post ⟨T.setVm vm₁, locs, cells, slots⟩ argsL.toArray v B ∧
      ∀ target, Steps p.tables e below (B.U.setTop { g with pc := g.pc + 3, stack := v.toList ++ rest }) target → Steps p.tables e below (T.setTop g) target := by
  obtain ⟨mk, methM, cM, hnamed, hmethM, -, -, -, -, -, -, hsigM⟩ := Cond.codeWith_spec hcode
  have hstatic : methM.isStatic = true := Cond.static_spec hnamed hmethM hstat
  obtain ⟨kP, hkP, -⟩ := className_of_methodNamed hnamed
  have hinitP : kP.init = .initialized := Cond.initialized_spec (findClass_of_methodNamed hnamed) hkP hinit
  obtain ⟨vm₁, X₁, hstep₁⟩ := X.invokestatic hexec hown hlink hnamed hmethM hstatic hkP hinitP hy (g := g) hg (argsL := argsL) (rest := rest) (hlen _ hsigM) hstack hdg
  obtain ⟨v, B, X', hpost, hsteps⟩ := hK m meth c ⟨T.setVm vm₁, locs, cells, slots⟩ { g with stack := rest } (.invokestatic index) mk argsL.toArray X₁ hg hsize hdg hW (X₁.named hnamed) (hpre vm₁ X₁.warmed)
  exact ⟨v, vm₁, B, X₁.warmed, X', hpost, fun target h => hstep₁ _ fun acts => by rw [doInvoke_state]; exact hsteps.trans h⟩
theorem vx_runSW {y : MethodName} {bytes cc : ByteArray} {maxL nL mc ms n index : Nat} {ret : Option FieldType} {hh : List (Nat × Nat × Nat × Nat)} {ws : List Cond} {rm : Room} {Pc : Array Value → State → Prop} {Qc : Array Value → State → Outcome → State → Prop} {free : Addr → Prop} {Ts : List Cond} {own : String} {As rest : List Value} {g : JFrame}
    (S : CallFix p m c cc nL s args Ts own) (hM : Met l y ws rm Pc Qc mc ms free) (cw : vx_CSW R s args own index y bytes maxL ret hh ws rm mc ms n) (hp : PreS s H Pc As)
    (hg : g.method = m) (hn : As.length = n) (hsize : g.locals.size = nL) (hstack : g.stack = As.reverse ++ rest) (hW : 2 * g.monitorRoom + (rest.map fun v => v.category).sum ≤ 8) (hdg : decode cc g.pc = .ok (.invokestatic index, 3)) (hf : cells + mc ≤ R.cells ∧ slots + ms ≤ R.slots) :
    va_Run p l e R s m args below meth c H locs cells slots mc ms g rest (Qc As.toArray) (free) := by
  obtain ⟨⟨hrc, hrs, hfr, hlo, hws, hcw⟩, hcode, hini, hy, hlen, hl, hstt⟩ := cw
  have hK : Back l R p e below s args y 3 8 (PreOf R mc ms Pc) (PostOf Qc mc ms free) := va_backW (hh := hh) (bytes := bytes) (maxL := maxL) (ret := ret) hM hp.1 hrc hrs hfr hlo hws hcw (fun a' U hW => word_at hW (Or.inl (by first | rfl | simp [Cond.onTables, Cond.keeps, Cond.steady])) hini)
  obtain ⟨hx, hb, hml, ho, -⟩ := S
  intro T hT X
  obtain ⟨v, vm₁, ⟨U', l2, c2, s2⟩, hW₁, X', ⟨g', mk, t, L, e1, e2, hq, h1, hL, h2, h3⟩, st⟩ := vx_callSW X hx (hh := hh) (bytes := bytes) (maxL := maxL) (ret := ret) ho hl hstt hini hcode hy hK hg (hsize.trans hml.symm) (argsL := As) (rest := rest) (fun sig h => hn.trans (hlen sig h)) hstack hW (by rw [hb]; exact hdg)
    (fun vm₁ hW₁ => ⟨hf.1, hf.2, hp.2 (T.setVm vm₁) hT hW₁⟩)
  dsimp only [Pt.U, Pt.locs, Pt.cells, Pt.slots] at X' e1 e2 h1 h2 h3 st
  subst h1; subst h2; subst h3
  exact ⟨v, (T.setVm vm₁).calling g' mk As.toArray, t, U', L, hT, X', hL, e1, e2, hq, st⟩
/-- not caught here, past rows that name other classes: it goes on to the caller -/
theorem vx_outP {p : Program} {l : Launch} {e : Env} {R : Room} {s : State} {m : MethodId} {args : Array Value} {below : List Frame} {meth : Method} {c : Code} {H : Heap} {locs : List Loc} {cells slots : Nat} {free : Addr → Prop} {ls : Array Slot} {rest : List Value} {Qc : Array Value → State → Outcome → State → Prop} {XC : String → State → State → Prop}
    {pc : Nat} {own E : String} {ce : Cell} {q : Addr} {mc ms : Nat} (hown : s.vm.findClass own = some m.cls) (hlocks : meth.locks = false)
    (hpass : ∀ z ∈ c.exceptionTable.toList, covers z pc = false ∨ (z.catchType ≠ 0 ∧ ∃ nm : String, (Cond.classLink own z.catchType nm).before args s = true ∧ va_Nc E nm s)) (hcell : H[q]? = some ce) (hv : ce.vm = .none) (hcl : s.vm.findClass E = some ce.cls)
    (hx : ∀ t : State, t.heap = H → s.vm.Alike t.vm → XC E s t) (hf : ∀ z ∈ locs, free z.base) (hc : cells ≤ mc) (hs : slots ≤ ms) :
    vx_W p l e R s m args below meth c H locs cells slots (vx_MQ below Qc XC args s mc ms free) (F0 m pc ls rest) q := by
  intro T hT X
  have hpl : e.platform.magicAccessors = ({} : Platform).magicAccessors := by rw [X.admits.platform]
  obtain ⟨vm', hW', X', st⟩ := X.outThrough hlocks q (g := F0 m pc ls rest) rfl rfl rfl (cell := ce) (by rw [hT]; exact hcell) (by rw [hv]; rfl)
    (by obtain ⟨k9, h9, -⟩ := Vm.findClass_spec hcl; exact ⟨k9, h9⟩) (fun z hz => by
      rcases hpass z hz with h | ⟨hz0, nm, hl1, hn1⟩
      · exact Or.inl h
      · obtain ⟨c6, hc6, hcl6⟩ := Cond.classLink_spec hown hl1 e.platform hpl
        obtain ⟨a8, b8, h1, h2, h3⟩ := hn1
        cases Option.some.inj (h1.symm.trans hcl)
        cases Option.some.inj (h2.symm.trans hc6)
        exact Or.inr ⟨hz0, _, hcl6, h3⟩)
  obtain ⟨g₀, hfr⟩ := X'.frames_eq
  have hcell9 : ((T.setVm vm').setFrames (.throwing q :: below)).heap[q]? = some ce := by
    show T.heap[q]? = some ce
    rw [hT]; exact hcell
  have hend : Ended ((T.setVm vm').setFrames (.throwing q :: below)) below (.threw q) := State.frames_setFrames _ (State.cur_lt_of_frames hfr)
  refine ⟨(T.setVm vm').setFrames (.throwing q :: below), ?_, .threw q, X'.here.running, hend, Or.inr ⟨q, rfl, E, ce, locs, hx _ hT (X'.ends _).1.alike, hcell9, hv, hcl, (X'.ends _).1, (X'.ends _).2.mono hc hs, hf⟩⟩
  rw [X.pushThrowing_eq]
  exact st
/-- a thing of a world lies in the heap -/
theorem vx_lt {D : va_G} {cl : List vw_C} {ws : va_W} {H1 : Heap} (h : va_P D cl ws H1) {k : Nat} {q : Nat × va_E} (hk : ws[k]? = some q) : q.1 < H1.size := (h k q hk).lt
end VXS
/-! ===== END ===== -/
/-! ===== BEGIN methods with a table of their own: called by a name, returning or throwing ===== -/
section VXH
/-! vx_backW, vx_callVX, vx_callSX, vx_callVW, vx_runVW, vx_runVX, vx_runSX, vx_ofWH follow the same proofs as their sisters above (Free/Laws.lean, Shelf42/LK1.lean); vx_outP calls Shelf42/NT130.lean (outThrough). -/
section
variable {l : Launch} {R : Room} {p : Program} {e : Env} {below : List Frame} {s : State} {sargs : Array Value} {y : MethodName} {len W9 : Nat}
theorem vx_backW {ws : List Cond} {rm : Room} {Pc : Array Value → State → Prop} {Qc : Array Value → State → Outcome → State → Prop} {XC : String → State → State → Prop} {mc ms : Nat} {free : Addr → Prop} {bytes : ByteArray} {maxL : Nat} {ret : Option FieldType} {hh : List (Nat × Nat × Nat × Nat)}
    (hM : vx_Met l y ws rm Pc Qc XC mc ms free) (hblind : FrameBlind Pc) (hrc : rm.cells = mc) (hrs : rm.slots = ms)
    (hframes : rm.frames + 1 ≤ R.frames) (hlocals : W9 + (maxL + 11) + rm.locals ≤ R.locals)
    (hws : ∀ w ∈ ws, ∀ a' U, s.WarmedH U.vm → w.before a' U = true) (hcode : Cond.codeWith y bytes maxL ret hh ∈ ws) (hinit : ∀ a' U, s.WarmedH U.vm → (Cond.initialized y.cls).before a' U = true) :
    vx_Back l R p e below s sargs y len W9 (PreOf R mc ms Pc) (PostOf Qc mc ms free) (vx_Post XC mc ms free) := by
  intro m meth c A g ig mk a X hg hsize hdg hW hn hp
  have h1 : (headSpec ws rm).pre.before a A.U = true := atoms_intro fun w hw => hws w hw _ _ X.warmed
  have h2 : (Cond.codeWith y bytes maxL ret hh).before a A.U = true := hws _ hcode _ _ X.warmed
  have h3 : (Cond.initialized y.cls).before a A.U = true := hinit _ _ X.warmed
  have h4 : A.cells + (headSpec ws rm).room.cells ≤ R.cells := by rw [show (headSpec ws rm).room.cells = mc from hrc]; exact hp.1
  have h5 : A.slots + (headSpec ws rm).room.slots ≤ R.slots := by rw [show (headSpec ws rm).room.slots = ms from hrs]; exact hp.2.1
  have hPc : Pc a (A.U.calling g mk a) := hblind _ _ _ _ hp.2.2
  obtain ⟨U, Ls, c0, s0⟩ := A
  dsimp only [Pt.U, Pt.locs, Pt.cells, Pt.slots] at h1 h2 h3 h4 h5 X hn hPc ⊢
  obtain ⟨m9, methY, cY, hn9, hmY, hcY, -, hlY, -⟩ := Cond.codeWith_spec h2
  cases Option.some.inj (hn9.symm.trans hn)
  obtain ⟨kY, hkY, -⟩ := className_of_methodNamed hn
  have hinitY : kY.init = .initialized := Cond.initialized_spec (findClass_of_methodNamed hn) hkY h3
  have h : At U g.method c below := by rw [hg]; exact X.here
  have hlocals9 : W9 + (maxL + 11) + (headSpec ws rm).room.locals ≤ R.locals := hlocals
  have happ : (headSpec ws rm).appliesLoose y e.platform (U.calling g mk a) = true :=
    Spec.appliesLoose_calling (g := g) h hdg hn hkY hinitY
      (X.room_calling (g := g) (R' := (headSpec ws rm).room) hsize hmY hcY hframes (by rw [hlY]; omega) h4 h5) h1
  obtain ⟨mid, hmid⟩ := h.above
  have hfr : (U.setTop g).frames = (.java g :: mid) ++ below := by rw [State.frames_setTop' g h.top, hmid]; rfl
  obtain ⟨o, s₂, hsteps, -, hend, hq⟩ := Steps.callFree hM p X.admits X.cas X.clock (acts := []) hfr happ hPc trivial
  have hq' : vx_Q Qc XC mc ms free a (U.calling g mk a) o s₂ := hq
  rw [State.frames_setTop' g h.top] at hend
  obtain ⟨g₀, hg0⟩ := Option.isSome_iff_exists.mp h.top
  obtain ⟨r, hr⟩ := State.topJava?_eq_some.mp hg0
  have hr' : (({ U with heap := s₂.heap, slotsUsed := s₂.slotsUsed } : State).setVm s₂.vm).frames = .java g₀ :: r := hr
  rcases hq' with ⟨hqc, L, hfe, hL⟩ | ⟨q, rfl, E, ce, L, hx, hce, hcv, hcl, hW₂, hsm, hL⟩
  · obtain ⟨⟨v, rfl⟩, hW₂, e2, q2, q3, q4, q5, q6⟩ := id hfe
    have e3 : s₂ = ({ (U.calling g mk a).setFrames s₂.frames with heap := s₂.heap, slotsUsed := s₂.slotsUsed } : State).setVm s₂.vm := by
      have : s₂ = ({ s₂ with vm := (U.calling g mk a).vm } : State).setVm s₂.vm := rfl
      rw [e2] at this
      exact this
    obtain ⟨c₂, i₂, len₂, hc₂, hd₂, hf₂⟩ := hend
    have hW' : U.WarmedH s₂.vm := hW₂
    have hcc : c₂ = c := by
      have h1 : s₂.code? g.method = U.code? g.method := by
        rw [State.code?_eq, State.code?_eq, hW'.alike.method?]
      exact Option.some.inj (hc₂.symm.trans (h1.trans h.code))
    subst hcc
    have hlen : len₂ = len := by rw [hdg] at hd₂; cases hd₂; rfl
    subst hlen
    have hs₂ : s₂ = (({ U with heap := s₂.heap, slotsUsed := s₂.slotsUsed } : State).setVm s₂.vm).setTop { g with pc := g.pc + len₂, stack := v.toList ++ g.stack } := by
      refine e3.trans ?_
      rw [hf₂, State.calling_eq h.top, State.setFrames_setFrames, State.setTop_of_frames _ hr', hr]
      rfl
    have hsame : U.sameButNew ({ U with heap := s₂.heap, slotsUsed := s₂.slotsUsed } : State) L mc ms := by
      refine ⟨?_, q2, q3, q4, q5, q6⟩
      obtain ⟨t, ht, -⟩ := State.frames_cons hr
      show ({ U with heap := s₂.heap, slotsUsed := s₂.slotsUsed } : State) = { U.setFrames U.frames with heap := s₂.heap, slotsUsed := s₂.slotsUsed }
      rw [State.setFrames_self ht]
    subst hg
    refine Or.inl ⟨v, ⟨(({ U with heap := s₂.heap, slotsUsed := s₂.slotsUsed } : State).setVm s₂.vm), Ls ++ L, c0 + mc, s0 + ms⟩,
      ⟨X.admits, X.cas, X.clock, X.frames, X.room, X.hears, X.method, X.code, (X.here.setHeapUsed s₂.heap s₂.slotsUsed).setVm hW'.alike, X.tail, State.WarmedH.trans X.warmed hW', X.limits, X.bytes, X.same.trans (hsame.setVm s.vm)⟩,
      ⟨g, mk, s₂, L, rfl, rfl, hqc, rfl, hL, rfl, rfl⟩, ?_⟩
    show Steps p.tables e below _ ((({ U with heap := s₂.heap, slotsUsed := s₂.slotsUsed } : State).setVm s₂.vm).setTop { g with pc := g.pc + len₂, stack := v.toList ++ g.stack })
    rw [← hs₂]
    exact hsteps
  · obtain ⟨e2, q2, q3, q4, q5, q6⟩ := id hsm
    have e3 : s₂ = ({ (U.calling g mk a).setFrames s₂.frames with heap := s₂.heap, slotsUsed := s₂.slotsUsed } : State).setVm s₂.vm := by
      have : s₂ = ({ s₂ with vm := (U.calling g mk a).vm } : State).setVm s₂.vm := rfl
      rw [e2] at this
      exact this
    have hf₂ : s₂.frames = .throwing q :: .java g :: U.frames.tail := hend
    have hW' : U.WarmedH s₂.vm := hW₂
    have hs₂ : s₂ = ((({ U with heap := s₂.heap, slotsUsed := s₂.slotsUsed } : State).setVm s₂.vm).setTop g).pushFrame (.throwing q) := by
      refine e3.trans ?_
      rw [hf₂, State.calling_eq h.top, State.setFrames_setFrames, State.pushFrame, State.frames_setTop _ hr', State.setTop_of_frames _ hr', State.setFrames_setFrames, hr]
      rfl
    have hsame : U.sameButNew ({ U with heap := s₂.heap, slotsUsed := s₂.slotsUsed } : State) L mc ms := by
      refine ⟨?_, q2, q3, q4, q5, q6⟩
      obtain ⟨t, ht, -⟩ := State.frames_cons hr
      show ({ U with heap := s₂.heap, slotsUsed := s₂.slotsUsed } : State) = { U.setFrames U.frames with heap := s₂.heap, slotsUsed := s₂.slotsUsed }
      rw [State.setFrames_self ht]
    subst hg
    refine Or.inr ⟨q, ⟨(({ U with heap := s₂.heap, slotsUsed := s₂.slotsUsed } : State).setVm s₂.vm), Ls ++ L, c0 + mc, s0 + ms⟩,
      ⟨X.admits, X.cas, X.clock, X.frames, X.room, X.hears, X.method, X.code, (X.here.setHeapUsed s₂.heap s₂.slotsUsed).setVm hW'.alike, X.tail, State.WarmedH.trans X.warmed hW', X.limits, X.bytes, X.same.trans (hsame.setVm s.vm)⟩,
      ⟨g, mk, s₂, L, E, ce, rfl, rfl, hx, hce, hcv, hcl, rfl, hL, rfl, rfl⟩, ?_⟩
    show Steps p.tables e below _ (((({ U with heap := s₂.heap, slotsUsed := s₂.slotsUsed } : State).setVm s₂.vm).setTop g).pushFrame (.throwing q))
    rw [← hs₂]
    exact hsteps
end
variable {p : Program} {l : Launch} {e : Env} {R : Room} {s : State} {m : MethodId} {args : Array Value} {below : List Frame} {meth : Method} {c : Code} {T : State} {H : Heap} {locs : List Loc} {cells slots : Nat}
theorem vx_callVX (X : Stand p l e R s m args below meth c T locs cells slots) (hexec : p.tables.exec = Jvm.exec) {own C : String} {index : Nat} {y : MethodName} {bytes : ByteArray} {maxL : Nat} {ret : Option FieldType} {hh : List (Nat × Nat × Nat × Nat)}
    (hown : s.vm.findClass own = some m.cls) (hlink : (Cond.methodLink own index y).before args s = true) (hinst : (Cond.instanceMethod y).before args s = true) (hsel : (Cond.selects C y y).before args s = true)
    (hcode : (Cond.codeWith y bytes maxL ret hh).before args s = true) (hy : y.cls ≠ "java/lang/invoke/MethodHandle" ∧ y.cls ≠ "java/lang/invoke/VarHandle")
    {W9 : Nat} {Pre : Pt → Array Value → Prop} {Post : Pt → Array Value → Option Value → Pt → Prop} {PostX : Pt → Array Value → Addr → Pt → Prop} (hK : vx_Back l R p e below s args y 3 W9 Pre Post PostX)
    {b : Addr} {cellB : Cell} (hcell : T.heap[b]? = some cellB) (hobj : cellB.vm.isStatics = false) (hcls : s.vm.findClass C = some cellB.cls)
    {g : JFrame} (hg : g.method = m) (hsize : g.locals.size = c.maxLocals) {argsL rest : List Value} (hlen : ∀ sig, parseMethodDescriptor y.desc = some sig → argsL.length = sig.parameters.length)
    (hstack : g.stack = argsL.reverse ++ .ref b :: rest) (hW : 2 * g.monitorRoom + (rest.map fun v => v.category).sum ≤ W9) (hdg : decode c.code g.pc = .ok (.invokevirtual index, 3))
    (hpre : ∀ vm₁, s.WarmedH vm₁ → Pre ⟨T.setVm vm₁, locs, cells, slots⟩ (Value.ref b :: argsL).toArray) :
    (∃ (v : Option Value) (vm₁ : Vm) (B : Pt), s.WarmedH vm₁ ∧ Stand p l e R s m args below meth c B.U B.locs B.cells B.slots ∧ Post ⟨T.setVm vm₁, locs, cells, slots⟩ (Value.ref b :: argsL).toArray v B ∧
      ∀ target, Steps p.tables e below (B.U.setTop { g with pc := g.pc + 3, stack := v.toList ++ rest }) target → Steps p.tables e below (T.setTop g) target) ∨
    (∃ (q : Addr) (vm₁ : Vm) (B : Pt), s.WarmedH vm₁ ∧ Stand p l e R s m args below meth c B.U B.locs B.cells B.slots ∧ PostX ⟨T.setVm vm₁, locs, cells, slots⟩ (Value.ref b :: argsL).toArray q B ∧
      Steps p.tables e below (T.setTop g) ((B.U.setTop { g with stack := rest }).pushFrame (.throwing q))) := by
  obtain ⟨mk, methM, hnamed, hmethM, hstM, habM⟩ := Cond.instanceMethod_spec hinst
  obtain ⟨m8, methM', cM, hn8, hmethM', -, -, -, -, -, -, hsigM⟩ := Cond.codeWith_spec hcode
  cases Option.some.inj (hn8.symm.trans hnamed)
  cases hmethM.symm.trans hmethM'
  obtain ⟨c2, r2, m2, q1, q2, q3, q4, kP, hkP, hkPi⟩ := Cond.selects_spec hsel
  cases hcls.symm.trans q1
  cases (State.methodFound?_of_named hnamed hy).symm.trans q2
  cases hnamed.symm.trans q3
  have hselP : selectMethod e.platform s.vm cellB.cls mk = .method mk := by rw [Launch.admits_selectMethod X.admits]; exact q4
  obtain ⟨vm₁, X₁, hstep₁⟩ := X.invokevirtual hexec hown hlink hnamed hmethM hstM hkP hkPi hy (a := b) (cell := cellB) hcell
    (fun z h => by rw [h] at hobj; cases hobj) hselP hmethM habM hkP hkPi (g := g) hg (argsL := argsL) (rest := rest) (hlen _ hsigM) hstack hdg
  rcases hK m meth c ⟨T.setVm vm₁, locs, cells, slots⟩ { g with stack := rest } (.invokevirtual index) mk (Value.ref b :: argsL).toArray X₁ hg hsize hdg hW (X₁.named hnamed) (hpre vm₁ X₁.warmed) with ⟨v, B, X', hpost, hsteps⟩ | ⟨q, B, X', hpost, hsteps⟩
  · exact Or.inl ⟨v, vm₁, B, X₁.warmed, X', hpost, fun target h => hstep₁ _ fun acts => by rw [doInvoke_state]; exact hsteps.trans h⟩
  · exact Or.inr ⟨q, vm₁, B, X₁.warmed, X', hpost, hstep₁ _ fun acts => by rw [doInvoke_state]; exact hsteps⟩
theorem vx_callSX (X : Stand p l e R s m args below meth c T locs cells slots) (hexec : p.tables.exec = Jvm.exec) {own : String} {index : Nat} {y : MethodName} {bytes : ByteArray} {maxL : Nat} {ret : Option FieldType} {hh : List (Nat × Nat × Nat × Nat)}
    (hown : s.vm.findClass own = some m.cls) (hlink : (Cond.methodLink own index y).before args s = true) (hstat : (Cond.static y).before args s = true) (hinit : (Cond.initialized y.cls).before args s = true)
    (hcode : (Cond.codeWith y bytes maxL ret hh).before args s = true) (hy : y.cls ≠ "java/lang/invoke/MethodHandle" ∧ y.cls ≠ "java/lang/invoke/VarHandle")
    {W9 : Nat} {Pre : Pt → Array Value → Prop} {Post : Pt → Array Value → Option Value → Pt → Prop} {PostX : Pt → Array Value → Addr → Pt → Prop} (hK : vx_Back l R p e below s args y 3 W9 Pre Post PostX)
    {g : JFrame} (hg : g.method = m) (hsize : g.locals.size = c.maxLocals) {argsL rest : List Value} (hlen : ∀ sig, parseMethodDescriptor y.desc = some sig → argsL.length = sig.parameters.length)
    (hstack : g.stack = argsL.reverse ++ rest) (hW : 2 * g.monitorRoom + (rest.map fun v => v.category).sum ≤ W9) (hdg : decode c.code g.pc = .ok (.invokestatic index, 3))
    (hpre : ∀ vm₁, s.WarmedH vm₁ → Pre ⟨T.setVm vm₁, locs, cells, slots⟩ argsL.toArray) :
    (∃ (v : Option Value) (vm₁ : Vm) (B : Pt), s.WarmedH vm₁ ∧ Stand p l e R s m args below meth c B.U B.locs B.cells B.slots ∧ Post ⟨T.setVm vm₁, locs, cells, slots⟩ argsL.toArray v B ∧
      ∀ target, Steps p.tables e below (B.U.setTop { g with pc := g.pc + 3, stack := v.toList ++ rest }) target → Steps p.tables e below (T.setTop g) target) ∨
    (∃ (q : Addr) (vm₁ : Vm) (B : Pt), s.WarmedH vm₁ ∧ Stand p l e R s m args below meth c B.U B.locs B.cells B.slots ∧ PostX ⟨T.setVm vm₁, locs, cells, slots⟩ argsL.toArray q B ∧
      Steps p.tables e below (T.setTop g) ((B.U.setTop { g with stack := rest }).pushFrame (.throwing q))) := by
  obtain ⟨mk, methM, cM, hnamed, hmethM, -, -, -, -, -, -, hsigM⟩ := Cond.codeWith_spec hcode
  have hstatic : methM.isStatic = true := Cond.static_spec hnamed hmethM hstat
  obtain ⟨kP, hkP, -⟩ := className_of_methodNamed hnamed
  have hinitP : kP.init = .initialized := Cond.initialized_spec (findClass_of_methodNamed hnamed) hkP hinit
  obtain ⟨vm₁, X₁, hstep₁⟩ := X.invokestatic hexec hown hlink hnamed hmethM hstatic hkP hinitP hy (g := g) hg (argsL := argsL) (rest := rest) (hlen _ hsigM) hstack hdg
  rcases hK m meth c ⟨T.setVm vm₁, locs, cells, slots⟩ { g with stack := rest } (.invokestatic index) mk argsL.toArray X₁ hg hsize hdg hW (X₁.named hnamed) (hpre vm₁ X₁.warmed) with ⟨v, B, X', hpost, hsteps⟩ | ⟨q, B, X', hpost, hsteps⟩
  · exact Or.inl ⟨v, vm₁, B, X₁.warmed, X', hpost, fun target h => hstep₁ _ fun acts => by rw [doInvoke_state]; exact hsteps.trans h⟩
  · exact Or.inr ⟨q, vm₁, B, X₁.warmed, X', hpost, hstep₁ _ fun acts => by rw [doInvoke_state]; exact hsteps⟩
theorem vx_callVW (X : Stand p l e R s m args below meth c T locs cells slots) (hexec : p.tables.exec = Jvm.exec) {own C : String} {index : Nat} {y : MethodName} {bytes : ByteArray} {maxL : Nat} {ret : Option FieldType} {hh : List (Nat × Nat × Nat × Nat)}
    (hown : s.vm.findClass own = some m.cls) (hlink : (Cond.methodLink own index y).before args s = true) (hinst : (Cond.instanceMethod y).before args s = true) (hsel : (Cond.selects C y y).before args s = true)
    (hcode : (Cond.codeWith y bytes maxL ret hh).before args s = true) (hy : y.cls ≠ "java/lang/invoke/MethodHandle" ∧ y.cls ≠ "java/lang/invoke/VarHandle")
    {W9 : Nat} {Pre : Pt → Array Value → Prop} {Post : Pt → Array Value → Option Value → Pt → Prop} (hK : Back l R p e below s args y 3 W9 Pre Post)
    {b : Addr} {cellB : Cell} (hcell : T.heap[b]? = some cellB) (hobj : cellB.vm.isStatics = false) (hcls : s.vm.findClass C = some cellB.cls)
    {g : JFrame} (hg : g.method = m) (hsize : g.locals.size = c.maxLocals) {argsL rest : List Value} (hlen : ∀ sig, parseMethodDescriptor y.desc = some sig → argsL.length = sig.parameters.length)
    (hstack : g.stack = argsL.reverse ++ .ref b :: rest) (hW : 2 * g.monitorRoom + (rest.map fun v => v.category).sum ≤ W9) (hdg : decode c.code g.pc = .ok (.invokevirtual index, 3))
    (hpre : ∀ vm₁, s.WarmedH vm₁ → Pre ⟨T.setVm vm₁, locs, cells, slots⟩ (Value.ref b :: argsL).toArray) :
    ∃ (v : Option Value) (vm₁ : Vm) (B : Pt), s.WarmedH vm₁ ∧ Stand p l e R s m args below meth c B.U B.locs B.cells B.slots ∧ Post ⟨T.setVm vm₁, locs, cells, slots⟩ (Value.ref b :: argsL).toArray v B ∧
      ∀ target, Steps p.tables e below (B.U.setTop { g with pc := g.pc + 3, stack := v.toList ++ rest }) target → Steps p.tables e below (T.setTop g) target := by
  obtain ⟨mk, methM, hnamed, hmethM, hstM, habM⟩ := Cond.instanceMethod_spec hinst
  obtain ⟨m8, methM', cM, hn8, hmethM', -, -, -, -, -, -, hsigM⟩ := Cond.codeWith_spec hcode
  cases Option.some.inj (hn8.symm.trans hnamed)
  cases hmethM.symm.trans hmethM'
  obtain ⟨c2, r2, m2, q1, q2, q3, q4, kP, hkP, hkPi⟩ := Cond.selects_spec hsel
  cases hcls.symm.trans q1
  cases (State.methodFound?_of_named hnamed hy).symm.trans q2
  cases hnamed.symm.trans q3
  have hselP : selectMethod e.platform s.vm cellB.cls mk = .method mk := by rw [Launch.admits_selectMethod X.admits]; exact q4
  obtain ⟨vm₁, X₁, hstep₁⟩ := X.invokevirtual hexec hown hlink hnamed hmethM hstM hkP hkPi hy (a := b) (cell := cellB) hcell
    (fun z h => by rw [h] at hobj; cases hobj) hselP hmethM habM hkP hkPi (g := g) hg (argsL := argsL) (rest := rest) (hlen _ hsigM) hstack hdg
  obtain ⟨v, B, X', hpost, hsteps⟩ := hK m meth c ⟨T.setVm vm₁, locs, cells, slots⟩ { g with stack := rest } (.invokevirtual index) mk (Value.ref b :: argsL).toArray X₁ hg hsize hdg hW (X₁.named hnamed) (hpre vm₁ X₁.warmed)
  exact ⟨v, vm₁, B, X₁.warmed, X', hpost, fun target h => hstep₁ _ fun acts => by rw [doInvoke_state]; exact hsteps.trans h⟩
abbrev vx_CVW (R : Room) (s : State) (args : Array Value) (own C : String) (index : Nat) (y : MethodName) (bytes : ByteArray) (maxL : Nat) (ret : Option FieldType) (hh : List (Nat × Nat × Nat × Nat)) (ws : List Cond) (rm : Room) (mc ms n : Nat) : Prop :=
  (rm.cells = mc ∧ rm.slots = ms ∧ rm.frames + 1 ≤ R.frames ∧ 8 + (maxL + 11) + rm.locals ≤ R.locals ∧ (∀ w ∈ ws, ∀ (a' : Array Value) (U : State), s.WarmedH U.vm → w.before a' U = true) ∧ Cond.codeWith y bytes maxL ret hh ∈ ws) ∧
  (Cond.codeWith y bytes maxL ret hh).before args s = true ∧ (Cond.initialized y.cls).before args s = true ∧ (y.cls ≠ "java/lang/invoke/MethodHandle" ∧ y.cls ≠ "java/lang/invoke/VarHandle") ∧
  (∀ sig, parseMethodDescriptor y.desc = some sig → n = sig.parameters.length) ∧ (Cond.methodLink own index y).before args s = true ∧ (Cond.instanceMethod y).before args s = true ∧ (Cond.selects C y y).before args s = true
theorem vx_cwVW {own C : String} {index maxL mc ms : Nat} {y : MethodName} {bytes : ByteArray} {ret : Option FieldType} {hh : List (Nat × Nat × Nat × Nat)} {Ts ws ws' : List Cond} {rm : Room} (n : Nat) (ht : ∀ w ∈ Ts, w.before args s = true) (hT : GoodIn Ts (wsV own index C y ws)) (hw : ws = Cond.codeWith y bytes maxL ret hh :: ws') (hrc : rm.cells = mc) (hrs : rm.slots = ms)
    (hd : y.cls = C ∧ y.cls ≠ "java/lang/invoke/MethodHandle" ∧ y.cls ≠ "java/lang/invoke/VarHandle" ∧ (parseMethodDescriptor y.desc).map (fun d => d.parameters.length) = some n) (hR : rm.frames + 1 ≤ R.frames ∧ 8 + (maxL + 11) + rm.locals ≤ R.locals) :
    vx_CVW R s args own C index y bytes maxL ret hh ws rm mc ms n := by
  obtain ⟨hC, hd⟩ := hd
  subst hC
  have ok : ∀ w ∈ wsV own index y.cls y ws, w.before args s = true := fun w h => ht w (hT w h).1
  have hG : GoodIn Ts ws := fun w h => hT w (by unfold wsV; exact List.mem_append_right _ h)
  have hc : Cond.codeWith y bytes maxL ret hh ∈ ws := by rw [hw]; exact List.mem_cons_self
  refine ⟨⟨hrc, hrs, hR.1, hR.2, pay_in ht hG, hc⟩, ht _ (hG _ hc).1, ok _ (by simp [wsV]), ⟨hd.1, hd.2.1⟩, fun sig h => ?_, ok _ (by simp [wsV]), ok _ (by simp [wsV]), ok _ (by simp [wsV])⟩
  have h2 := hd.2.2
  rw [h] at h2
  exact (Option.some.inj h2).symm
theorem vx_runVW {y : MethodName} {bytes cc : ByteArray} {maxL nL mc ms n index : Nat} {ret : Option FieldType} {hh : List (Nat × Nat × Nat × Nat)} {ws : List Cond} {rm : Room} {Pc : Array Value → State → Prop} {Qc : Array Value → State → Outcome → State → Prop} {free : Addr → Prop} {Ts : List Cond} {own C : String} {b : Addr} {As rest : List Value} {g : JFrame}
    (S : CallFix p m c cc nL s args Ts own) (hM : Met l y ws rm Pc Qc mc ms free) (cw : vx_CVW R s args own C index y bytes maxL ret hh ws rm mc ms n) (hp : PreV s H C b Pc As)
    (hg : g.method = m) (hn : As.length = n) (hsize : g.locals.size = nL) (hstack : g.stack = As.reverse ++ .ref b :: rest) (hW : 2 * g.monitorRoom + (rest.map fun v => v.category).sum ≤ 8) (hdg : decode cc g.pc = .ok (.invokevirtual index, 3)) (hf : cells + mc ≤ R.cells ∧ slots + ms ≤ R.slots) :
    va_Run p l e R s m args below meth c H locs cells slots mc ms g rest (Qc (Value.ref b :: As).toArray) free := by
  obtain ⟨⟨hrc, hrs, hfr, hlo, hws, hcw⟩, hcode, hini, hy, hlen, hl, hin, hse⟩ := cw
  have hK : Back l R p e below s args y 3 8 (PreOf R mc ms Pc) (PostOf Qc mc ms free) := va_backW (hh := hh) (bytes := bytes) (maxL := maxL) (ret := ret) hM hp.1 hrc hrs hfr hlo hws hcw (fun a' U hW => word_at hW (Or.inl (by first | rfl | simp [Cond.onTables, Cond.keeps, Cond.steady])) hini)
  obtain ⟨hx, hb, hml, ho, -⟩ := S
  obtain ⟨-, ⟨cellB, hcB, hoB, hclB⟩, hPc⟩ := hp
  intro T hT X
  obtain ⟨v, vm₁, ⟨U', l2, c2, s2⟩, hW₁, X', ⟨g', mk, t, L, e1, e2, hq, h1, hL, h2, h3⟩, st⟩ := vx_callVW X hx (C := C) (hh := hh) (bytes := bytes) (maxL := maxL) (ret := ret) ho hl hin hse hcode hy hK (by rw [hT]; exact hcB) hoB hclB hg (hsize.trans hml.symm) (argsL := As) (rest := rest) (fun sig h => hn.trans (hlen sig h)) hstack hW (by rw [hb]; exact hdg)
    (fun vm₁ hW₁ => ⟨hf.1, hf.2, hPc (T.setVm vm₁) hT hW₁⟩)
  dsimp only [Pt.U, Pt.locs, Pt.cells, Pt.slots] at X' e1 e2 h1 h2 h3 st
  subst h1; subst h2; subst h3
  exact ⟨v, (T.setVm vm₁).calling g' mk (Value.ref b :: As).toArray, t, U', L, hT, X', hL, e1, e2, hq, st⟩
section
variable {y : MethodName} {bytes cc : ByteArray} {maxL nL mc ms n index : Nat} {ret : Option FieldType} {ws : List Cond} {rm : Room} {Pc : Array Value → State → Prop} {Qc : Array Value → State → Outcome → State → Prop} {XC : String → State → State → Prop} {free : Addr → Prop} {Ts : List Cond} {own C : String} {b : Addr} {As rest : List Value} {g : JFrame}
theorem vx_runVX {hh : List (Nat × Nat × Nat × Nat)} (S : CallFix p m c cc nL s args Ts own) (hM : vx_Met l y ws rm Pc Qc XC mc ms free) (cw : vx_CVW R s args own C index y bytes maxL ret hh ws rm mc ms n) (hp : PreV s H C b Pc As)
    (hg : g.method = m) (hn : As.length = n) (hsize : g.locals.size = nL) (hstack : g.stack = As.reverse ++ .ref b :: rest) (hW : 2 * g.monitorRoom + (rest.map fun v => v.category).sum ≤ 8) (hdg : decode cc g.pc = .ok (.invokevirtual index, 3)) (hf : cells + mc ≤ R.cells ∧ slots + ms ≤ R.slots) :
    vx_Run p l e R s m args below meth c H locs cells slots mc ms g rest (Qc (Value.ref b :: As).toArray) XC free := by
  obtain ⟨⟨hrc, hrs, hfr, hlo, hws, hcw⟩, hcode, hini, hy, hlen, hl, hin, hse⟩ := cw
  have hK : vx_Back l R p e below s args y 3 8 (PreOf R mc ms Pc) (PostOf Qc mc ms free) (vx_Post XC mc ms free) := vx_backW (hh := hh) (bytes := bytes) (maxL := maxL) (ret := ret) hM hp.1 hrc hrs hfr hlo hws hcw (fun a' U hW => word_at hW (Or.inl (by first | rfl | simp [Cond.onTables, Cond.keeps, Cond.steady])) hini)
  obtain ⟨hx, hb, hml, ho, -⟩ := S
  obtain ⟨-, ⟨cellB, hcB, hoB, hclB⟩, hPc⟩ := hp
  intro T hT X
  rcases vx_callVX X hx (C := C) (hh := hh) (bytes := bytes) (maxL := maxL) (ret := ret) ho hl hin hse hcode hy hK (by rw [hT]; exact hcB) hoB hclB hg (hsize.trans hml.symm) (argsL := As) (rest := rest) (fun sig h => hn.trans (hlen sig h)) hstack hW (by rw [hb]; exact hdg)
    (fun vm₁ hW₁ => ⟨hf.1, hf.2, hPc (T.setVm vm₁) hT hW₁⟩) with ⟨v, vm₁, ⟨U', l2, c2, s2⟩, hW₁, X', ⟨g', mk, t, L, e1, e2, hq, h1, hL, h2, h3⟩, st⟩ | ⟨q, vm₁, ⟨U', l2, c2, s2⟩, hW₁, X', ⟨g', mk, t, L, E, ce, e1, e2, hq, hce, hcv, hcl, h1, hL, h2, h3⟩, st⟩
  · dsimp only [Pt.U, Pt.locs, Pt.cells, Pt.slots] at X' e1 e2 h1 h2 h3 st
    subst h1; subst h2; subst h3
    exact Or.inl ⟨v, (T.setVm vm₁).calling g' mk (Value.ref b :: As).toArray, t, U', L, hT, X', hL, e1, e2, hq, st⟩
  · dsimp only [Pt.U, Pt.locs, Pt.cells, Pt.slots] at X' e1 e2 h1 h2 h3 st hcl
    subst h1; subst h2; subst h3
    exact Or.inr ⟨q, (T.setVm vm₁).calling g' mk (Value.ref b :: As).toArray, t, U', L, E, ce, hT, X', hL, e1, e2, hq, hce, hcv, vx_cls hW₁ hcl, st⟩
theorem vx_runSX {hh : List (Nat × Nat × Nat × Nat)} (S : CallFix p m c cc nL s args Ts own) (hM : vx_Met l y ws rm Pc Qc XC mc ms free) (cw : vx_CSW R s args own index y bytes maxL ret hh ws rm mc ms n) (hp : PreS s H Pc As)
    (hg : g.method = m) (hn : As.length = n) (hsize : g.locals.size = nL) (hstack : g.stack = As.reverse ++ rest) (hW : 2 * g.monitorRoom + (rest.map fun v => v.category).sum ≤ 8) (hdg : decode cc g.pc = .ok (.invokestatic index, 3)) (hf : cells + mc ≤ R.cells ∧ slots + ms ≤ R.slots) :
    vx_Run p l e R s m args below meth c H locs cells slots mc ms g rest (Qc As.toArray) XC free := by
  obtain ⟨⟨hrc, hrs, hfr, hlo, hws, hcw⟩, hcode, hini, hy, hlen, hl, hstt⟩ := cw
  have hK : vx_Back l R p e below s args y 3 8 (PreOf R mc ms Pc) (PostOf Qc mc ms free) (vx_Post XC mc ms free) := vx_backW (hh := hh) (bytes := bytes) (maxL := maxL) (ret := ret) hM hp.1 hrc hrs hfr hlo hws hcw (fun a' U hW => word_at hW (Or.inl (by first | rfl | simp [Cond.onTables, Cond.keeps, Cond.steady])) hini)
  obtain ⟨hx, hb, hml, ho, -⟩ := S
  intro T hT X
  rcases vx_callSX X hx (hh := hh) (bytes := bytes) (maxL := maxL) (ret := ret) ho hl hstt hini hcode hy hK hg (hsize.trans hml.symm) (argsL := As) (rest := rest) (fun sig h => hn.trans (hlen sig h)) hstack hW (by rw [hb]; exact hdg)
    (fun vm₁ hW₁ => ⟨hf.1, hf.2, hp.2 (T.setVm vm₁) hT hW₁⟩) with ⟨v, vm₁, ⟨U', l2, c2, s2⟩, hW₁, X', ⟨g', mk, t, L, e1, e2, hq, h1, hL, h2, h3⟩, st⟩ | ⟨q, vm₁, ⟨U', l2, c2, s2⟩, hW₁, X', ⟨g', mk, t, L, E, ce, e1, e2, hq, hce, hcv, hcl, h1, hL, h2, h3⟩, st⟩
  · dsimp only [Pt.U, Pt.locs, Pt.cells, Pt.slots] at X' e1 e2 h1 h2 h3 st
    subst h1; subst h2; subst h3
    exact Or.inl ⟨v, (T.setVm vm₁).calling g' mk As.toArray, t, U', L, hT, X', hL, e1, e2, hq, st⟩
  · dsimp only [Pt.U, Pt.locs, Pt.cells, Pt.slots] at X' e1 e2 h1 h2 h3 st hcl
    subst h1; subst h2; subst h3
    exact Or.inr ⟨q, (T.setVm vm₁).calling g' mk As.toArray, t, U', L, E, ce, hT, X', hL, e1, e2, hq, hce, hcv, vx_cls hW₁ hcl, st⟩
end
end VXH
theorem vx_ofWH {l : Launch} {y : MethodName} {ws ws' : List Cond} {rm : Room} {Pc : Array Value → State → Prop} {Qc : Array Value → State → Outcome → State → Prop} {XC : String → State → State → Prop} {mc ms : Nat} {free : Addr → Prop} {cc : ByteArray} {maxL : Nat} {ret : Option FieldType} {hh : List (Nat × Nat × Nat × Nat)}
    (hy : plainName y.cls = true) (hw : ws = Cond.codeWith y cc maxL ret hh :: ws')
    (body : ∀ p e s m args below meth c s₁, BodyLoose p l y (headSpec ws rm) cc maxL ret e s m args below meth c s₁ → c.maxLocals = maxL → Pc args s →
      W p l e (headSpec ws rm).room s m args below meth c s.heap [] 0 0 (vx_MQ below Qc XC args s mc ms free) (entryFrame m args maxL)) : vx_Met l y ws rm Pc Qc XC mc ms free := by
  refine MetFree.of_bodyS (code := cc) (maxLocals := maxL) (ret := ret) hy ?_ ?_
  · intro args s m h hn
    obtain ⟨m9, meth, c, hn9, h1, h2, h3, h4, -, h5, h6, -⟩ := Cond.codeWith_spec (atoms_spec (ws := ws) h _ (by rw [hw]; exact List.mem_cons_self))
    cases hn.symm.trans hn9
    exact ⟨meth, c, h1, h2, h3, h4, h5, h6⟩
  · intro p e s m args below meth c s₁ B hml hP _
    have hh0 : s₁.heap = s.heap := by rw [B.state]; rfl
    obtain ⟨t, a1, o, b1, b2, b3⟩ := body p e s m args below meth c s₁ B hml hP s₁ hh0 (Stand.of_body B)
    exact ⟨t, o, a1, b1, b2, b3⟩
/-! ===== END ===== -/
end
section
/-! names of the classes, fields, methods (printed) -/
def RX0 : String := "ImageBaker$Bake"
def TX0 : u_T := fun k => match k with
  | 0 => ("ImageBaker$Bake", "number", "I", true)
  | 1 => ("ImageBaker$Bake", "image", "LImageBaker$Image;", true)
  | 2 => ("ImageBaker$Bake", "top", "I", true)
  | 3 => ("ImageBaker$Bake", "day", "I", true)
  | 4 => ("ImageBaker$Bake", "firstDays", "[I", true)
  | 5 => ("ImageBaker$Bake", "ring", "I", false)
  | 6 => ("ImageBaker$Bake", "passedInRing", "Z", false)
  | 7 => ("ImageBaker$Bake", "held", "Z", false)
  | _ => ("ImageBaker$Bake", "gone", "Z", false)
def tyX0 : Nat → FieldType := fun k => match k with
  | 0 => .int
  | 1 => .object "ImageBaker$Image"
  | 2 => .int
  | 3 => .int
  | 4 => .array .int
  | 5 => .int
  | 6 => .boolean
  | 7 => .boolean
  | _ => .boolean
abbrev wsX00 : List Cond := u_ws RX0 TX0 9
theorem nmX0 : ∀ a, a < 9 → ∀ b, b < 9 → a ≠ b → (TX0 a).2.1 ≠ (TX0 b).2.1 := by decide +kernel
theorem tyX0_ok : ∀ k, k < 9 → parseFieldDescriptor (TX0 k).2.2.1 = some (tyX0 k) := by decide +kernel
abbrev cX0_init : ByteArray := prog_2_method_1_code
def yX0_init : MethodName := ⟨RX0, "<init>", "(ILImageBaker$Image;II)V"⟩
abbrev cX0_firstDayAt : ByteArray := prog_2_method_2_code
def yX0_firstDayAt : MethodName := ⟨RX0, "firstDayAt", "(I)I"⟩
abbrev cX0_arriveAt : ByteArray := prog_2_method_3_code
def yX0_arriveAt : MethodName := ⟨RX0, "arriveAt", "(II)V"⟩
def RX1 : String := "ImageBaker$Image"
def TX1 : u_T := fun k => match k with
  | 0 => ("ImageBaker$Image", "number", "I", true)
  | 1 => ("ImageBaker$Image", "parent", "LImageBaker$Image;", true)
  | 2 => ("ImageBaker$Image", "inputs", "[I", true)
  | 3 => ("ImageBaker$Image", "stepCount", "I", false)
  | 4 => ("ImageBaker$Image", "latest", "LImageBaker$Bake;", false)
  | _ => ("ImageBaker$Image", "topToCome", "I", false)
def tyX1 : Nat → FieldType := fun k => match k with
  | 0 => .int
  | 1 => .object "ImageBaker$Image"
  | 2 => .array .int
  | 3 => .int
  | 4 => .object "ImageBaker$Bake"
  | _ => .int
abbrev wsX10 : List Cond := u_ws RX1 TX1 6
theorem nmX1 : ∀ a, a < 6 → ∀ b, b < 6 → a ≠ b → (TX1 a).2.1 ≠ (TX1 b).2.1 := by decide +kernel
theorem tyX1_ok : ∀ k, k < 6 → parseFieldDescriptor (TX1 k).2.2.1 = some (tyX1 k) := by decide +kernel
abbrev cX1_init : ByteArray := prog_3_method_1_code
def yX1_init : MethodName := ⟨RX1, "<init>", "(ILImageBaker$Image;)V"⟩
abbrev cX1_takesStep : ByteArray := prog_3_method_2_code
def yX1_takesStep : MethodName := ⟨RX1, "takesStep", "(I)Z"⟩
def RX2 : String := "ImageBaker$Layers"
def TX2 : u_T := fun k => match k with
  | 0 => ("ImageBaker$Layers", "belows", "[I", true)
  | 1 => ("ImageBaker$Layers", "inputs", "[I", true)
  | 2 => ("ImageBaker$Layers", "versions", "[I", true)
  | _ => ("ImageBaker$Layers", "count", "I", false)
def tyX2 : Nat → FieldType := fun k => match k with
  | 0 => .array .int
  | 1 => .array .int
  | 2 => .array .int
  | _ => .int
abbrev wsX20 : List Cond := u_ws RX2 TX2 4
theorem nmX2 : ∀ a, a < 4 → ∀ b, b < 4 → a ≠ b → (TX2 a).2.1 ≠ (TX2 b).2.1 := by decide +kernel
theorem tyX2_ok : ∀ k, k < 4 → parseFieldDescriptor (TX2 k).2.2.1 = some (tyX2 k) := by decide +kernel
abbrev cX2_init : ByteArray := prog_4_method_1_code
def yX2_init : MethodName := ⟨RX2, "<init>", "()V"⟩
abbrev cX2_find : ByteArray := prog_4_method_2_code
def yX2_find : MethodName := ⟨RX2, "find", "(III)I"⟩
abbrev cX2_findOrMake : ByteArray := prog_4_method_3_code
def yX2_findOrMake : MethodName := ⟨RX2, "findOrMake", "(III)I"⟩
abbrev cX2_isOf : ByteArray := prog_4_method_4_code
def yX2_isOf : MethodName := ⟨RX2, "isOf", "(III)Z"⟩
abbrev cX2_fillChain : ByteArray := prog_4_method_5_code
def yX2_fillChain : MethodName := ⟨RX2, "fillChain", "(I[I)I"⟩
def RX3 : String := "ImageBaker$Machine"
def TX3 : u_T := fun k => match k with
  | 0 => ("ImageBaker$Machine", "number", "I", true)
  | 1 => ("ImageBaker$Machine", "image", "LImageBaker$Image;", true)
  | 2 => ("ImageBaker$Machine", "place", "I", true)
  | 3 => ("ImageBaker$Machine", "ring", "I", true)
  | _ => ("ImageBaker$Machine", "bake", "LImageBaker$Bake;", false)
def tyX3 : Nat → FieldType := fun k => match k with
  | 0 => .int
  | 1 => .object "ImageBaker$Image"
  | 2 => .int
  | 3 => .int
  | _ => .object "ImageBaker$Bake"
abbrev wsX30 : List Cond := u_ws RX3 TX3 5
theorem nmX3 : ∀ a, a < 5 → ∀ b, b < 5 → a ≠ b → (TX3 a).2.1 ≠ (TX3 b).2.1 := by decide +kernel
theorem tyX3_ok : ∀ k, k < 5 → parseFieldDescriptor (TX3 k).2.2.1 = some (tyX3 k) := by decide +kernel
abbrev cX3_init : ByteArray := prog_5_method_1_code
def yX3_init : MethodName := ⟨RX3, "<init>", "(ILImageBaker$Image;IILImageBaker$Bake;)V"⟩
def RX4 : String := "ImageBaker"
def TX4 : u_T := fun k => match k with
  | 0 => ("ImageBaker", "layers", "LImageBaker$Layers;", true)
  | 1 => ("ImageBaker", "versions", "[I", true)
  | 2 => ("ImageBaker", "greatestVersions", "[I", true)
  | 3 => ("ImageBaker", "images", "[LImageBaker$Image;", true)
  | 4 => ("ImageBaker", "imageCount", "I", false)
  | 5 => ("ImageBaker", "bakes", "[LImageBaker$Bake;", true)
  | 6 => ("ImageBaker", "bakeCount", "I", false)
  | 7 => ("ImageBaker", "machines", "[LImageBaker$Machine;", true)
  | 8 => ("ImageBaker", "machineCount", "I", false)
  | 9 => ("ImageBaker", "today", "I", false)
  | 10 => ("ImageBaker", "delays", "[I", true)
  | 11 => ("ImageBaker", "startAge", "I", false)
  | 12 => ("ImageBaker", "keepAge", "I", false)
  | 13 => ("ImageBaker", "line", "[LImageBaker$Image;", true)
  | 14 => ("ImageBaker", "forefathers", "[LImageBaker$Image;", true)
  | 15 => ("ImageBaker", "chain", "[I", true)
  | _ => ("ImageBaker", "waiting", "[LImageBaker$Machine;", true)
def tyX4 : Nat → FieldType := fun k => match k with
  | 0 => .object "ImageBaker$Layers"
  | 1 => .array .int
  | 2 => .array .int
  | 3 => .array (.object "ImageBaker$Image")
  | 4 => .int
  | 5 => .array (.object "ImageBaker$Bake")
  | 6 => .int
  | 7 => .array (.object "ImageBaker$Machine")
  | 8 => .int
  | 9 => .int
  | 10 => .array .int
  | 11 => .int
  | 12 => .int
  | 13 => .array (.object "ImageBaker$Image")
  | 14 => .array (.object "ImageBaker$Image")
  | 15 => .array .int
  | _ => .array (.object "ImageBaker$Machine")
abbrev wsX40 : List Cond := u_ws RX4 TX4 17
theorem nmX4 : ∀ a, a < 17 → ∀ b, b < 17 → a ≠ b → (TX4 a).2.1 ≠ (TX4 b).2.1 := by decide +kernel
theorem tyX4_ok : ∀ k, k < 17 → parseFieldDescriptor (TX4 k).2.2.1 = some (tyX4 k) := by decide +kernel
abbrev cX4_init : ByteArray := prog_1_method_1_code
def yX4_init : MethodName := ⟨RX4, "<init>", "()V"⟩
abbrev cX4_add : ByteArray := prog_1_method_2_code
def yX4_add : MethodName := ⟨RX4, "add", "(I)I"⟩
abbrev cX4_step : ByteArray := prog_1_method_3_code
def yX4_step : MethodName := ⟨RX4, "step", "(II)I"⟩
abbrev cX4_change : ByteArray := prog_1_method_4_code
def yX4_change : MethodName := ⟨RX4, "change", "(II)I"⟩
abbrev cX4_bake : ByteArray := prog_1_method_5_code
def yX4_bake : MethodName := ⟨RX4, "bake", "(I)I"⟩
abbrev cX4_bakeAll : ByteArray := prog_1_method_6_code
def yX4_bakeAll : MethodName := ⟨RX4, "bakeAll", "()I"⟩
abbrev cX4_isFresh : ByteArray := prog_1_method_7_code
def yX4_isFresh : MethodName := ⟨RX4, "isFresh", "(I)Z"⟩
abbrev cX4_isFreshAnew : ByteArray := prog_1_method_8_code
def yX4_isFreshAnew : MethodName := ⟨RX4, "isFreshAnew", "(I)Z"⟩
abbrev cX4_layers : ByteArray := prog_1_method_9_code
def yX4_layers : MethodName := ⟨RX4, "layers", "()I"⟩
abbrev cX4_bakes : ByteArray := prog_1_method_10_code
def yX4_bakes : MethodName := ⟨RX4, "bakes", "()I"⟩
abbrev cX4_latest : ByteArray := prog_1_method_11_code
def yX4_latest : MethodName := ⟨RX4, "latest", "(I)I"⟩
abbrev cX4_top : ByteArray := prog_1_method_12_code
def yX4_top : MethodName := ⟨RX4, "top", "(I)I"⟩
abbrev cX4_test : ByteArray := prog_1_method_13_code
def yX4_test : MethodName := ⟨RX4, "test", "(IZ)Z"⟩
abbrev cX4_hold : ByteArray := prog_1_method_14_code
def yX4_hold : MethodName := ⟨RX4, "hold", "(I)I"⟩
abbrev cX4_raise : ByteArray := prog_1_method_15_code
def yX4_raise : MethodName := ⟨RX4, "raise", "(I)I"⟩
abbrev cX4_copy : ByteArray := prog_1_method_16_code
def yX4_copy : MethodName := ⟨RX4, "copy", "(II)I"⟩
abbrev cX4_setRules : ByteArray := prog_1_method_17_code
def yX4_setRules : MethodName := ⟨RX4, "setRules", "(IIII)V"⟩
abbrev cX4_pass : ByteArray := prog_1_method_18_code
def yX4_pass : MethodName := ⟨RX4, "pass", "(I)I"⟩
abbrev cX4_state : ByteArray := prog_1_method_19_code
def yX4_state : MethodName := ⟨RX4, "state", "(I)I"⟩
abbrev cX4_start : ByteArray := prog_1_method_20_code
def yX4_start : MethodName := ⟨RX4, "start", "(III)I"⟩
abbrev cX4_renew : ByteArray := prog_1_method_21_code
def yX4_renew : MethodName := ⟨RX4, "renew", "(I)I"⟩
abbrev cX4_stop : ByteArray := prog_1_method_22_code
def yX4_stop : MethodName := ⟨RX4, "stop", "(I)I"⟩
abbrev cX4_runsFrom : ByteArray := prog_1_method_23_code
def yX4_runsFrom : MethodName := ⟨RX4, "runsFrom", "(I)I"⟩
abbrev cX4_old : ByteArray := prog_1_method_24_code
def yX4_old : MethodName := ⟨RX4, "old", "()I"⟩
abbrev cX4_oldAt : ByteArray := prog_1_method_25_code
def yX4_oldAt : MethodName := ⟨RX4, "oldAt", "(I)I"⟩
abbrev cX4_imageAt : ByteArray := prog_1_method_26_code
def yX4_imageAt : MethodName := ⟨RX4, "imageAt", "(I)LImageBaker$Image;"⟩
abbrev cX4_beginOf : ByteArray := prog_1_method_27_code
def yX4_beginOf : MethodName := ⟨RX4, "beginOf", "(LImageBaker$Image;)I"⟩
abbrev cX4_topFrom : ByteArray := prog_1_method_28_code
def yX4_topFrom : MethodName := ⟨RX4, "topFrom", "(ILImageBaker$Image;)I"⟩
abbrev cX4_makeTopFrom : ByteArray := prog_1_method_29_code
def yX4_makeTopFrom : MethodName := ⟨RX4, "makeTopFrom", "(ILImageBaker$Image;)I"⟩
abbrev cX4_needsBake : ByteArray := prog_1_method_30_code
def yX4_needsBake : MethodName := ⟨RX4, "needsBake", "(LImageBaker$Image;)Z"⟩
abbrev cX4_bakeIfNeeded : ByteArray := prog_1_method_31_code
def yX4_bakeIfNeeded : MethodName := ⟨RX4, "bakeIfNeeded", "(LImageBaker$Image;)V"⟩
abbrev cX4_countBakesToCome : ByteArray := prog_1_method_32_code
def yX4_countBakesToCome : MethodName := ⟨RX4, "countBakesToCome", "()I"⟩
abbrev cX4_fillLine : ByteArray := prog_1_method_33_code
def yX4_fillLine : MethodName := ⟨RX4, "fillLine", "()V"⟩
abbrev cX4_lineUpChildren : ByteArray := prog_1_method_34_code
def yX4_lineUpChildren : MethodName := ⟨RX4, "lineUpChildren", "(LImageBaker$Image;I)I"⟩
abbrev cX4_isMadeAsNow : ByteArray := prog_1_method_35_code
def yX4_isMadeAsNow : MethodName := ⟨RX4, "isMadeAsNow", "(LImageBaker$Image;)Z"⟩
abbrev cX4_fillForefathers : ByteArray := prog_1_method_36_code
def yX4_fillForefathers : MethodName := ⟨RX4, "fillForefathers", "(LImageBaker$Image;)I"⟩
abbrev cX4_followSteps : ByteArray := prog_1_method_37_code
def yX4_followSteps : MethodName := ⟨RX4, "followSteps", "(LImageBaker$Image;II)I"⟩
abbrev cX4_bakeAt : ByteArray := prog_1_method_38_code
def yX4_bakeAt : MethodName := ⟨RX4, "bakeAt", "(I)LImageBaker$Bake;"⟩
abbrev cX4_numberOf : ByteArray := prog_1_method_39_code
def yX4_numberOf : MethodName := ⟨RX4, "numberOf", "(LImageBaker$Bake;)I"⟩
abbrev cX4_isTooOld : ByteArray := prog_1_method_40_code
def yX4_isTooOld : MethodName := ⟨RX4, "isTooOld", "(LImageBaker$Bake;)Z"⟩
abbrev cX4_mustGo : ByteArray := prog_1_method_41_code
def yX4_mustGo : MethodName := ⟨RX4, "mustGo", "(LImageBaker$Bake;)Z"⟩
abbrev cX4_countMachinesFrom : ByteArray := prog_1_method_42_code
def yX4_countMachinesFrom : MethodName := ⟨RX4, "countMachinesFrom", "(LImageBaker$Bake;)I"⟩
abbrev cX4_machineAt : ByteArray := prog_1_method_43_code
def yX4_machineAt : MethodName := ⟨RX4, "machineAt", "(I)LImageBaker$Machine;"⟩
abbrev cX4_runningAt : ByteArray := prog_1_method_44_code
def yX4_runningAt : MethodName := ⟨RX4, "runningAt", "(I)LImageBaker$Machine;"⟩
abbrev cX4_bakeFor : ByteArray := prog_1_method_45_code
def yX4_bakeFor : MethodName := ⟨RX4, "bakeFor", "(LImageBaker$Image;II)LImageBaker$Bake;"⟩
abbrev cX4_canStart : ByteArray := prog_1_method_46_code
def yX4_canStart : MethodName := ⟨RX4, "canStart", "(LImageBaker$Bake;II)Z"⟩
abbrev cX4_mustRenew : ByteArray := prog_1_method_47_code
def yX4_mustRenew : MethodName := ⟨RX4, "mustRenew", "(LImageBaker$Machine;)Z"⟩
abbrev cX4_fillWaiting : ByteArray := prog_1_method_48_code
def yX4_fillWaiting : MethodName := ⟨RX4, "fillWaiting", "()I"⟩
abbrev cX4_insertWaiting : ByteArray := prog_1_method_49_code
def yX4_insertWaiting : MethodName := ⟨RX4, "insertWaiting", "(LImageBaker$Machine;I)V"⟩
abbrev cX4_isAhead : ByteArray := prog_1_method_50_code
def yX4_isAhead : MethodName := ⟨RX4, "isAhead", "(LImageBaker$Bake;LImageBaker$Machine;)Z"⟩
abbrev cX4_at : ByteArray := prog_1_method_51_code
def yX4_at : MethodName := ⟨RX4, "at", "([II)I"⟩
def RX5 : String := "ImageBakerModel"
def TX5 : u_T := fun k => match k with
  | 0 => ("ImageBakerModel", "thrown", "I", false)
  | 1 => ("ImageBakerModel", "day", "I", false)
  | 2 => ("ImageBakerModel", "version", "[I", true)
  | 3 => ("ImageBakerModel", "greatest", "[I", true)
  | 4 => ("ImageBakerModel", "parent", "[I", true)
  | 5 => ("ImageBakerModel", "inputOf", "[I", true)
  | 6 => ("ImageBakerModel", "steps", "[I", true)
  | 7 => ("ImageBakerModel", "latest", "[I", true)
  | 8 => ("ImageBakerModel", "images", "I", false)
  | 9 => ("ImageBakerModel", "below", "[I", true)
  | 10 => ("ImageBakerModel", "input", "[I", true)
  | 11 => ("ImageBakerModel", "its", "[I", true)
  | 12 => ("ImageBakerModel", "layers", "I", false)
  | 13 => ("ImageBakerModel", "image", "[I", true)
  | 14 => ("ImageBakerModel", "top", "[I", true)
  | 15 => ("ImageBakerModel", "made", "[I", true)
  | 16 => ("ImageBakerModel", "ring", "[I", true)
  | 17 => ("ImageBakerModel", "isHeld", "[Z", true)
  | 18 => ("ImageBakerModel", "isGone", "[Z", true)
  | 19 => ("ImageBakerModel", "isPassed", "[Z", true)
  | 20 => ("ImageBakerModel", "there", "[I", true)
  | 21 => ("ImageBakerModel", "bakes", "I", false)
  | 22 => ("ImageBakerModel", "delay", "[I", true)
  | 23 => ("ImageBakerModel", "startAge", "I", false)
  | 24 => ("ImageBakerModel", "keepAge", "I", false)
  | 25 => ("ImageBakerModel", "machineImage", "[I", true)
  | 26 => ("ImageBakerModel", "machinePlace", "[I", true)
  | 27 => ("ImageBakerModel", "machineRing", "[I", true)
  | 28 => ("ImageBakerModel", "runs", "[I", true)
  | 29 => ("ImageBakerModel", "machines", "I", false)
  | 30 => ("ImageBakerModel", "line", "[I", true)
  | _ => ("ImageBakerModel", "before", "[I", true)
def tyX5 : Nat → FieldType := fun k => match k with
  | 0 => .int
  | 1 => .int
  | 2 => .array .int
  | 3 => .array .int
  | 4 => .array .int
  | 5 => .array .int
  | 6 => .array .int
  | 7 => .array .int
  | 8 => .int
  | 9 => .array .int
  | 10 => .array .int
  | 11 => .array .int
  | 12 => .int
  | 13 => .array .int
  | 14 => .array .int
  | 15 => .array .int
  | 16 => .array .int
  | 17 => .array .boolean
  | 18 => .array .boolean
  | 19 => .array .boolean
  | 20 => .array .int
  | 21 => .int
  | 22 => .array .int
  | 23 => .int
  | 24 => .int
  | 25 => .array .int
  | 26 => .array .int
  | 27 => .array .int
  | 28 => .array .int
  | 29 => .int
  | 30 => .array .int
  | _ => .array .int
abbrev wsX50 : List Cond := u_ws RX5 TX5 32
theorem nmX5 : ∀ a, a < 32 → ∀ b, b < 32 → a ≠ b → (TX5 a).2.1 ≠ (TX5 b).2.1 := by decide +kernel
theorem tyX5_ok : ∀ k, k < 32 → parseFieldDescriptor (TX5 k).2.2.1 = some (tyX5 k) := by decide +kernel
abbrev cX5_init : ByteArray := prog_7_method_1_code
def yX5_init : MethodName := ⟨RX5, "<init>", "()V"⟩
abbrev cX5_thrown : ByteArray := prog_7_method_2_code
def yX5_thrown : MethodName := ⟨RX5, "thrown", "()I"⟩
abbrev cX5_isFine : ByteArray := prog_7_method_3_code
def yX5_isFine : MethodName := ⟨RX5, "isFine", "(I)Z"⟩
abbrev cX5_isIn : ByteArray := prog_7_method_4_code
def yX5_isIn : MethodName := ⟨RX5, "isIn", "(III)Z"⟩
abbrev cX5_isImage : ByteArray := prog_7_method_5_code
def yX5_isImage : MethodName := ⟨RX5, "isImage", "(I)Z"⟩
abbrev cX5_isBake : ByteArray := prog_7_method_6_code
def yX5_isBake : MethodName := ⟨RX5, "isBake", "(I)Z"⟩
abbrev cX5_add : ByteArray := prog_7_method_7_code
def yX5_add : MethodName := ⟨RX5, "add", "(I)I"⟩
abbrev cX5_step : ByteArray := prog_7_method_8_code
def yX5_step : MethodName := ⟨RX5, "step", "(II)I"⟩
abbrev cX5_change : ByteArray := prog_7_method_9_code
def yX5_change : MethodName := ⟨RX5, "change", "(II)I"⟩
abbrev cX5_find : ByteArray := prog_7_method_10_code
def yX5_find : MethodName := ⟨RX5, "find", "(III)I"⟩
abbrev cX5_hasBase : ByteArray := prog_7_method_11_code
def yX5_hasBase : MethodName := ⟨RX5, "hasBase", "(I)Z"⟩
abbrev cX5_baseOf : ByteArray := prog_7_method_12_code
def yX5_baseOf : MethodName := ⟨RX5, "baseOf", "(I)I"⟩
abbrev cX5_topNow : ByteArray := prog_7_method_13_code
def yX5_topNow : MethodName := ⟨RX5, "topNow", "(I)I"⟩
abbrev cX5_isAlike : ByteArray := prog_7_method_14_code
def yX5_isAlike : MethodName := ⟨RX5, "isAlike", "(I)Z"⟩
abbrev cX5_isFreshNow : ByteArray := prog_7_method_15_code
def yX5_isFreshNow : MethodName := ⟨RX5, "isFreshNow", "(I)Z"⟩
abbrev cX5_makes : ByteArray := prog_7_method_16_code
def yX5_makes : MethodName := ⟨RX5, "makes", "(I)V"⟩
abbrev cX5_bake : ByteArray := prog_7_method_17_code
def yX5_bake : MethodName := ⟨RX5, "bake", "(I)I"⟩
abbrev cX5_joins : ByteArray := prog_7_method_18_code
def yX5_joins : MethodName := ⟨RX5, "joins", "(II)I"⟩
abbrev cX5_bakeAll : ByteArray := prog_7_method_19_code
def yX5_bakeAll : MethodName := ⟨RX5, "bakeAll", "()I"⟩
abbrev cX5_isFresh : ByteArray := prog_7_method_20_code
def yX5_isFresh : MethodName := ⟨RX5, "isFresh", "(I)Z"⟩
abbrev cX5_isFreshAnew : ByteArray := prog_7_method_21_code
def yX5_isFreshAnew : MethodName := ⟨RX5, "isFreshAnew", "(I)Z"⟩
abbrev cX5_layers : ByteArray := prog_7_method_22_code
def yX5_layers : MethodName := ⟨RX5, "layers", "()I"⟩
abbrev cX5_bakes : ByteArray := prog_7_method_23_code
def yX5_bakes : MethodName := ⟨RX5, "bakes", "()I"⟩
abbrev cX5_latest : ByteArray := prog_7_method_24_code
def yX5_latest : MethodName := ⟨RX5, "latest", "(I)I"⟩
abbrev cX5_top : ByteArray := prog_7_method_25_code
def yX5_top : MethodName := ⟨RX5, "top", "(I)I"⟩
abbrev cX5_running : ByteArray := prog_7_method_26_code
def yX5_running : MethodName := ⟨RX5, "running", "(I)I"⟩
abbrev cX5_isTooOld : ByteArray := prog_7_method_27_code
def yX5_isTooOld : MethodName := ⟨RX5, "isTooOld", "(I)Z"⟩
abbrev cX5_test : ByteArray := prog_7_method_28_code
def yX5_test : MethodName := ⟨RX5, "test", "(IZ)Z"⟩
abbrev cX5_hold : ByteArray := prog_7_method_29_code
def yX5_hold : MethodName := ⟨RX5, "hold", "(I)I"⟩
abbrev cX5_raise : ByteArray := prog_7_method_30_code
def yX5_raise : MethodName := ⟨RX5, "raise", "(I)I"⟩
abbrev cX5_copy : ByteArray := prog_7_method_31_code
def yX5_copy : MethodName := ⟨RX5, "copy", "(II)I"⟩
abbrev cX5_setRules : ByteArray := prog_7_method_32_code
def yX5_setRules : MethodName := ⟨RX5, "setRules", "(IIII)V"⟩
abbrev cX5_pass : ByteArray := prog_7_method_33_code
def yX5_pass : MethodName := ⟨RX5, "pass", "(I)I"⟩
abbrev cX5_state : ByteArray := prog_7_method_34_code
def yX5_state : MethodName := ⟨RX5, "state", "(I)I"⟩
abbrev cX5_bakeFor : ByteArray := prog_7_method_35_code
def yX5_bakeFor : MethodName := ⟨RX5, "bakeFor", "(III)I"⟩
abbrev cX5_start : ByteArray := prog_7_method_36_code
def yX5_start : MethodName := ⟨RX5, "start", "(III)I"⟩
abbrev cX5_isRunning : ByteArray := prog_7_method_37_code
def yX5_isRunning : MethodName := ⟨RX5, "isRunning", "(I)Z"⟩
abbrev cX5_next : ByteArray := prog_7_method_38_code
def yX5_next : MethodName := ⟨RX5, "next", "(I)I"⟩
abbrev cX5_renew : ByteArray := prog_7_method_39_code
def yX5_renew : MethodName := ⟨RX5, "renew", "(I)I"⟩
abbrev cX5_stop : ByteArray := prog_7_method_40_code
def yX5_stop : MethodName := ⟨RX5, "stop", "(I)I"⟩
abbrev cX5_runsFrom : ByteArray := prog_7_method_41_code
def yX5_runsFrom : MethodName := ⟨RX5, "runsFrom", "(I)I"⟩
abbrev cX5_isOld : ByteArray := prog_7_method_42_code
def yX5_isOld : MethodName := ⟨RX5, "isOld", "(I)Z"⟩
abbrev cX5_old : ByteArray := prog_7_method_43_code
def yX5_old : MethodName := ⟨RX5, "old", "()I"⟩
abbrev cX5_isAhead : ByteArray := prog_7_method_44_code
def yX5_isAhead : MethodName := ⟨RX5, "isAhead", "(II)Z"⟩
abbrev cX5_oldAt : ByteArray := prog_7_method_45_code
def yX5_oldAt : MethodName := ⟨RX5, "oldAt", "(I)I"⟩
def RL : String := "ImageBakerLaw"
abbrev cL_add : ByteArray := method_3_code
def yL_add : MethodName := ⟨RL, "add", "(LImageBaker;I[J)I"⟩
abbrev cL_step : ByteArray := method_4_code
def yL_step : MethodName := ⟨RL, "step", "(LImageBaker;II[J)I"⟩
abbrev cL_change : ByteArray := method_5_code
def yL_change : MethodName := ⟨RL, "change", "(LImageBaker;II[J)I"⟩
abbrev cL_bake : ByteArray := method_6_code
def yL_bake : MethodName := ⟨RL, "bake", "(LImageBaker;I[J)I"⟩
abbrev cL_bakeAll : ByteArray := method_7_code
def yL_bakeAll : MethodName := ⟨RL, "bakeAll", "(LImageBaker;[J)I"⟩
abbrev cL_isFresh : ByteArray := method_8_code
def yL_isFresh : MethodName := ⟨RL, "isFresh", "(LImageBaker;I[J)I"⟩
abbrev cL_isFreshAnew : ByteArray := method_9_code
def yL_isFreshAnew : MethodName := ⟨RL, "isFreshAnew", "(LImageBaker;I[J)I"⟩
abbrev cL_latest : ByteArray := method_10_code
def yL_latest : MethodName := ⟨RL, "latest", "(LImageBaker;I[J)I"⟩
abbrev cL_top : ByteArray := method_11_code
def yL_top : MethodName := ⟨RL, "top", "(LImageBaker;I[J)I"⟩
abbrev cL_test : ByteArray := method_12_code
def yL_test : MethodName := ⟨RL, "test", "(LImageBaker;IZ[J)I"⟩
abbrev cL_hold : ByteArray := method_13_code
def yL_hold : MethodName := ⟨RL, "hold", "(LImageBaker;I[J)I"⟩
abbrev cL_raise : ByteArray := method_14_code
def yL_raise : MethodName := ⟨RL, "raise", "(LImageBaker;I[J)I"⟩
abbrev cL_copy : ByteArray := method_15_code
def yL_copy : MethodName := ⟨RL, "copy", "(LImageBaker;II[J)I"⟩
abbrev cL_setRules : ByteArray := method_16_code
def yL_setRules : MethodName := ⟨RL, "setRules", "(LImageBaker;IIII)I"⟩
abbrev cL_pass : ByteArray := method_17_code
def yL_pass : MethodName := ⟨RL, "pass", "(LImageBaker;I[J)I"⟩
abbrev cL_state : ByteArray := method_18_code
def yL_state : MethodName := ⟨RL, "state", "(LImageBaker;I[J)I"⟩
abbrev cL_start : ByteArray := method_19_code
def yL_start : MethodName := ⟨RL, "start", "(LImageBaker;III[J)I"⟩
abbrev cL_renew : ByteArray := method_20_code
def yL_renew : MethodName := ⟨RL, "renew", "(LImageBaker;I[J)I"⟩
abbrev cL_stop : ByteArray := method_21_code
def yL_stop : MethodName := ⟨RL, "stop", "(LImageBaker;I[J)I"⟩
abbrev cL_runsFrom : ByteArray := method_22_code
def yL_runsFrom : MethodName := ⟨RL, "runsFrom", "(LImageBaker;I[J)I"⟩
abbrev cL_oldAt : ByteArray := method_23_code
def yL_oldAt : MethodName := ⟨RL, "oldAt", "(LImageBaker;I[J)I"⟩
abbrev cL_law : ByteArray := code
def yL_law : MethodName := ⟨RL, "law", "([I)Z"⟩
abbrev vwCl : List vw_C := [(RX0, TX0, 9), (RX1, TX1, 6), (RX2, TX2, 4), (RX3, TX3, 5), (RX4, TX4, 17), (RX5, TX5, 32)]
end
section
/-! decode rows (printed), 1 -/
theorem dX0_init_0 : decode cX0_init 0 = .ok (.aload_n 0, 1) := by decide +kernel
theorem dX0_init_1 : decode cX0_init 1 = .ok (.invokespecial 3, 3) := by decide +kernel
theorem dX0_init_4 : decode cX0_init 4 = .ok (.aload_n 0, 1) := by decide +kernel
theorem dX0_init_5 : decode cX0_init 5 = .ok (.iconst 3, 1) := by decide +kernel
theorem dX0_init_6 : decode cX0_init 6 = .ok (.newarray .int, 2) := by decide +kernel
theorem dX0_init_8 : decode cX0_init 8 = .ok (.putfield 9, 3) := by decide +kernel
theorem dX0_init_11 : decode cX0_init 11 = .ok (.aload_n 0, 1) := by decide +kernel
theorem dX0_init_12 : decode cX0_init 12 = .ok (.iload_n 1, 1) := by decide +kernel
theorem dX0_init_13 : decode cX0_init 13 = .ok (.putfield 15, 3) := by decide +kernel
theorem dX0_init_16 : decode cX0_init 16 = .ok (.aload_n 0, 1) := by decide +kernel
theorem dX0_init_17 : decode cX0_init 17 = .ok (.aload_n 2, 1) := by decide +kernel
theorem dX0_init_18 : decode cX0_init 18 = .ok (.putfield 19, 3) := by decide +kernel
theorem dX0_init_21 : decode cX0_init 21 = .ok (.aload_n 0, 1) := by decide +kernel
theorem dX0_init_22 : decode cX0_init 22 = .ok (.iload_n 3, 1) := by decide +kernel
theorem dX0_init_23 : decode cX0_init 23 = .ok (.putfield 23, 3) := by decide +kernel
theorem dX0_init_26 : decode cX0_init 26 = .ok (.aload_n 0, 1) := by decide +kernel
theorem dX0_init_27 : decode cX0_init 27 = .ok (.iload 4, 2) := by decide +kernel
theorem dX0_init_29 : decode cX0_init 29 = .ok (.putfield 26, 3) := by decide +kernel
theorem dX0_init_32 : decode cX0_init 32 = .ok (.iconst 0, 1) := by decide +kernel
theorem dX0_init_33 : decode cX0_init 33 = .ok (.istore 5, 2) := by decide +kernel
theorem dX0_init_35 : decode cX0_init 35 = .ok (.iload 5, 2) := by decide +kernel
theorem dX0_init_37 : decode cX0_init 37 = .ok (.aload_n 0, 1) := by decide +kernel
theorem dX0_init_38 : decode cX0_init 38 = .ok (.getfield 9, 3) := by decide +kernel
theorem dX0_init_41 : decode cX0_init 41 = .ok (.arraylength, 1) := by decide +kernel
theorem dX0_init_42 : decode cX0_init 42 = .ok (.if_icmp .ge 17, 3) := by decide +kernel
theorem dX0_init_45 : decode cX0_init 45 = .ok (.aload_n 0, 1) := by decide +kernel
theorem dX0_init_46 : decode cX0_init 46 = .ok (.getfield 9, 3) := by decide +kernel
theorem dX0_init_49 : decode cX0_init 49 = .ok (.iload 5, 2) := by decide +kernel
theorem dX0_init_51 : decode cX0_init 51 = .ok (.iconst (-1), 1) := by decide +kernel
theorem dX0_init_52 : decode cX0_init 52 = .ok (.iastore, 1) := by decide +kernel
theorem dX0_init_53 : decode cX0_init 53 = .ok (.iinc 5 1, 3) := by decide +kernel
theorem dX0_init_56 : decode cX0_init 56 = .ok (.goto (-21), 3) := by decide +kernel
theorem dX0_init_59 : decode cX0_init 59 = .ok (.return_, 1) := by decide +kernel
theorem dX0_firstDayAt_0 : decode cX0_firstDayAt 0 = .ok (.aload_n 0, 1) := by decide +kernel
theorem dX0_firstDayAt_1 : decode cX0_firstDayAt 1 = .ok (.getfield 9, 3) := by decide +kernel
theorem dX0_firstDayAt_4 : decode cX0_firstDayAt 4 = .ok (.iload_n 1, 1) := by decide +kernel
theorem dX0_firstDayAt_5 : decode cX0_firstDayAt 5 = .ok (.invokestatic 29, 3) := by decide +kernel
theorem dX0_firstDayAt_8 : decode cX0_firstDayAt 8 = .ok (.ireturn, 1) := by decide +kernel
theorem dX0_arriveAt_0 : decode cX0_arriveAt 0 = .ok (.iload_n 1, 1) := by decide +kernel
theorem dX0_arriveAt_1 : decode cX0_arriveAt 1 = .ok (.ifCond .lt 19, 3) := by decide +kernel
theorem dX0_arriveAt_4 : decode cX0_arriveAt 4 = .ok (.iload_n 1, 1) := by decide +kernel
theorem dX0_arriveAt_5 : decode cX0_arriveAt 5 = .ok (.aload_n 0, 1) := by decide +kernel
theorem dX0_arriveAt_6 : decode cX0_arriveAt 6 = .ok (.getfield 9, 3) := by decide +kernel
theorem dX0_arriveAt_9 : decode cX0_arriveAt 9 = .ok (.arraylength, 1) := by decide +kernel
theorem dX0_arriveAt_10 : decode cX0_arriveAt 10 = .ok (.if_icmp .ge 10, 3) := by decide +kernel
theorem dX0_arriveAt_13 : decode cX0_arriveAt 13 = .ok (.aload_n 0, 1) := by decide +kernel
theorem dX0_arriveAt_14 : decode cX0_arriveAt 14 = .ok (.getfield 9, 3) := by decide +kernel
theorem dX0_arriveAt_17 : decode cX0_arriveAt 17 = .ok (.iload_n 1, 1) := by decide +kernel
theorem dX0_arriveAt_18 : decode cX0_arriveAt 18 = .ok (.iload_n 2, 1) := by decide +kernel
theorem dX0_arriveAt_19 : decode cX0_arriveAt 19 = .ok (.iastore, 1) := by decide +kernel
theorem dX0_arriveAt_20 : decode cX0_arriveAt 20 = .ok (.return_, 1) := by decide +kernel
theorem dX1_init_0 : decode cX1_init 0 = .ok (.aload_n 0, 1) := by decide +kernel
theorem dX1_init_1 : decode cX1_init 1 = .ok (.invokespecial 3, 3) := by decide +kernel
theorem dX1_init_4 : decode cX1_init 4 = .ok (.aload_n 0, 1) := by decide +kernel
theorem dX1_init_5 : decode cX1_init 5 = .ok (.iconst 5, 1) := by decide +kernel
theorem dX1_init_6 : decode cX1_init 6 = .ok (.newarray .int, 2) := by decide +kernel
theorem dX1_init_8 : decode cX1_init 8 = .ok (.putfield 9, 3) := by decide +kernel
theorem dX1_init_11 : decode cX1_init 11 = .ok (.aload_n 0, 1) := by decide +kernel
theorem dX1_init_12 : decode cX1_init 12 = .ok (.iload_n 1, 1) := by decide +kernel
theorem dX1_init_13 : decode cX1_init 13 = .ok (.putfield 15, 3) := by decide +kernel
theorem dX1_init_16 : decode cX1_init 16 = .ok (.aload_n 0, 1) := by decide +kernel
theorem dX1_init_17 : decode cX1_init 17 = .ok (.aload_n 2, 1) := by decide +kernel
theorem dX1_init_18 : decode cX1_init 18 = .ok (.putfield 19, 3) := by decide +kernel
theorem dX1_init_21 : decode cX1_init 21 = .ok (.return_, 1) := by decide +kernel
theorem dX1_takesStep_0 : decode cX1_takesStep 0 = .ok (.aload_n 0, 1) := by decide +kernel
theorem dX1_takesStep_1 : decode cX1_takesStep 1 = .ok (.getfield 23, 3) := by decide +kernel
theorem dX1_takesStep_4 : decode cX1_takesStep 4 = .ok (.ifCond .lt 15, 3) := by decide +kernel
theorem dX1_takesStep_7 : decode cX1_takesStep 7 = .ok (.aload_n 0, 1) := by decide +kernel
theorem dX1_takesStep_8 : decode cX1_takesStep 8 = .ok (.getfield 23, 3) := by decide +kernel
theorem dX1_takesStep_11 : decode cX1_takesStep 11 = .ok (.aload_n 0, 1) := by decide +kernel
theorem dX1_takesStep_12 : decode cX1_takesStep 12 = .ok (.getfield 9, 3) := by decide +kernel
theorem dX1_takesStep_15 : decode cX1_takesStep 15 = .ok (.arraylength, 1) := by decide +kernel
theorem dX1_takesStep_16 : decode cX1_takesStep 16 = .ok (.if_icmp .lt 5, 3) := by decide +kernel
theorem dX1_takesStep_19 : decode cX1_takesStep 19 = .ok (.iconst 0, 1) := by decide +kernel
theorem dX1_takesStep_20 : decode cX1_takesStep 20 = .ok (.ireturn, 1) := by decide +kernel
theorem dX1_takesStep_21 : decode cX1_takesStep 21 = .ok (.aload_n 0, 1) := by decide +kernel
theorem dX1_takesStep_22 : decode cX1_takesStep 22 = .ok (.getfield 9, 3) := by decide +kernel
theorem dX1_takesStep_25 : decode cX1_takesStep 25 = .ok (.aload_n 0, 1) := by decide +kernel
theorem dX1_takesStep_26 : decode cX1_takesStep 26 = .ok (.getfield 23, 3) := by decide +kernel
theorem dX1_takesStep_29 : decode cX1_takesStep 29 = .ok (.iload_n 1, 1) := by decide +kernel
theorem dX1_takesStep_30 : decode cX1_takesStep 30 = .ok (.iastore, 1) := by decide +kernel
theorem dX1_takesStep_31 : decode cX1_takesStep 31 = .ok (.aload_n 0, 1) := by decide +kernel
theorem dX1_takesStep_32 : decode cX1_takesStep 32 = .ok (.dup, 1) := by decide +kernel
theorem dX1_takesStep_33 : decode cX1_takesStep 33 = .ok (.getfield 23, 3) := by decide +kernel
theorem dX1_takesStep_36 : decode cX1_takesStep 36 = .ok (.iconst 1, 1) := by decide +kernel
theorem dX1_takesStep_37 : decode cX1_takesStep 37 = .ok (.iadd, 1) := by decide +kernel
theorem dX1_takesStep_38 : decode cX1_takesStep 38 = .ok (.putfield 23, 3) := by decide +kernel
theorem dX1_takesStep_41 : decode cX1_takesStep 41 = .ok (.iconst 1, 1) := by decide +kernel
theorem dX1_takesStep_42 : decode cX1_takesStep 42 = .ok (.ireturn, 1) := by decide +kernel
theorem dX2_init_0 : decode cX2_init 0 = .ok (.aload_n 0, 1) := by decide +kernel
theorem dX2_init_1 : decode cX2_init 1 = .ok (.invokespecial 3, 3) := by decide +kernel
theorem dX2_init_4 : decode cX2_init 4 = .ok (.aload_n 0, 1) := by decide +kernel
theorem dX2_init_5 : decode cX2_init 5 = .ok (.sipush 300, 3) := by decide +kernel
theorem dX2_init_8 : decode cX2_init 8 = .ok (.newarray .int, 2) := by decide +kernel
theorem dX2_init_10 : decode cX2_init 10 = .ok (.putfield 9, 3) := by decide +kernel
theorem dX2_init_13 : decode cX2_init 13 = .ok (.aload_n 0, 1) := by decide +kernel
theorem dX2_init_14 : decode cX2_init 14 = .ok (.sipush 300, 3) := by decide +kernel
theorem dX2_init_17 : decode cX2_init 17 = .ok (.newarray .int, 2) := by decide +kernel
theorem dX2_init_19 : decode cX2_init 19 = .ok (.putfield 15, 3) := by decide +kernel
theorem dX2_init_22 : decode cX2_init 22 = .ok (.aload_n 0, 1) := by decide +kernel
theorem dX2_init_23 : decode cX2_init 23 = .ok (.sipush 300, 3) := by decide +kernel
theorem dX2_init_26 : decode cX2_init 26 = .ok (.newarray .int, 2) := by decide +kernel
theorem dX2_init_28 : decode cX2_init 28 = .ok (.putfield 18, 3) := by decide +kernel
theorem dX2_init_31 : decode cX2_init 31 = .ok (.return_, 1) := by decide +kernel
theorem dX2_find_0 : decode cX2_find 0 = .ok (.iconst 0, 1) := by decide +kernel
theorem dX2_find_1 : decode cX2_find 1 = .ok (.istore 4, 2) := by decide +kernel
theorem dX2_find_3 : decode cX2_find 3 = .ok (.iload 4, 2) := by decide +kernel
theorem dX2_find_5 : decode cX2_find 5 = .ok (.aload_n 0, 1) := by decide +kernel
theorem dX2_find_6 : decode cX2_find 6 = .ok (.getfield 21, 3) := by decide +kernel
theorem dX2_find_9 : decode cX2_find 9 = .ok (.if_icmp .ge 44, 3) := by decide +kernel
theorem dX2_find_12 : decode cX2_find 12 = .ok (.iload 4, 2) := by decide +kernel
theorem dX2_find_14 : decode cX2_find 14 = .ok (.aload_n 0, 1) := by decide +kernel
theorem dX2_find_15 : decode cX2_find 15 = .ok (.getfield 9, 3) := by decide +kernel
theorem dX2_find_18 : decode cX2_find 18 = .ok (.arraylength, 1) := by decide +kernel
theorem dX2_find_19 : decode cX2_find 19 = .ok (.if_icmp .ge 34, 3) := by decide +kernel
theorem dX2_find_22 : decode cX2_find 22 = .ok (.aload_n 0, 1) := by decide +kernel
theorem dX2_find_23 : decode cX2_find 23 = .ok (.getfield 9, 3) := by decide +kernel
theorem dX2_find_26 : decode cX2_find 26 = .ok (.iload 4, 2) := by decide +kernel
theorem dX2_find_28 : decode cX2_find 28 = .ok (.iaload, 1) := by decide +kernel
theorem dX2_find_29 : decode cX2_find 29 = .ok (.iload_n 1, 1) := by decide +kernel
theorem dX2_find_30 : decode cX2_find 30 = .ok (.if_icmp .ne 17, 3) := by decide +kernel
theorem dX2_find_33 : decode cX2_find 33 = .ok (.aload_n 0, 1) := by decide +kernel
theorem dX2_find_34 : decode cX2_find 34 = .ok (.iload 4, 2) := by decide +kernel
theorem dX2_find_36 : decode cX2_find 36 = .ok (.iload_n 2, 1) := by decide +kernel
theorem dX2_find_37 : decode cX2_find 37 = .ok (.iload_n 3, 1) := by decide +kernel
theorem dX2_find_38 : decode cX2_find 38 = .ok (.invokevirtual 25, 3) := by decide +kernel
theorem dX2_find_41 : decode cX2_find 41 = .ok (.ifCond .eq 6, 3) := by decide +kernel
theorem dX2_find_44 : decode cX2_find 44 = .ok (.iload 4, 2) := by decide +kernel
theorem dX2_find_46 : decode cX2_find 46 = .ok (.ireturn, 1) := by decide +kernel
theorem dX2_find_47 : decode cX2_find 47 = .ok (.iinc 4 1, 3) := by decide +kernel
theorem dX2_find_50 : decode cX2_find 50 = .ok (.goto (-47), 3) := by decide +kernel
theorem dX2_find_53 : decode cX2_find 53 = .ok (.bipush (-2), 2) := by decide +kernel
theorem dX2_find_55 : decode cX2_find 55 = .ok (.ireturn, 1) := by decide +kernel
theorem dX2_findOrMake_0 : decode cX2_findOrMake 0 = .ok (.aload_n 0, 1) := by decide +kernel
theorem dX2_findOrMake_1 : decode cX2_findOrMake 1 = .ok (.iload_n 1, 1) := by decide +kernel
theorem dX2_findOrMake_2 : decode cX2_findOrMake 2 = .ok (.iload_n 2, 1) := by decide +kernel
theorem dX2_findOrMake_3 : decode cX2_findOrMake 3 = .ok (.iload_n 3, 1) := by decide +kernel
theorem dX2_findOrMake_4 : decode cX2_findOrMake 4 = .ok (.invokevirtual 29, 3) := by decide +kernel
theorem dX2_findOrMake_7 : decode cX2_findOrMake 7 = .ok (.istore 4, 2) := by decide +kernel
theorem dX2_findOrMake_9 : decode cX2_findOrMake 9 = .ok (.iload 4, 2) := by decide +kernel
theorem dX2_findOrMake_11 : decode cX2_findOrMake 11 = .ok (.bipush (-2), 2) := by decide +kernel
theorem dX2_findOrMake_13 : decode cX2_findOrMake 13 = .ok (.if_icmp .ne 20, 3) := by decide +kernel
theorem dX2_findOrMake_16 : decode cX2_findOrMake 16 = .ok (.aload_n 0, 1) := by decide +kernel
theorem dX2_findOrMake_17 : decode cX2_findOrMake 17 = .ok (.getfield 21, 3) := by decide +kernel
theorem dX2_findOrMake_20 : decode cX2_findOrMake 20 = .ok (.ifCond .lt 13, 3) := by decide +kernel
theorem dX2_findOrMake_23 : decode cX2_findOrMake 23 = .ok (.aload_n 0, 1) := by decide +kernel
theorem dX2_findOrMake_24 : decode cX2_findOrMake 24 = .ok (.getfield 21, 3) := by decide +kernel
theorem dX2_findOrMake_27 : decode cX2_findOrMake 27 = .ok (.sipush 300, 3) := by decide +kernel
theorem dX2_findOrMake_30 : decode cX2_findOrMake 30 = .ok (.if_icmp .lt 6, 3) := by decide +kernel
theorem dX2_findOrMake_33 : decode cX2_findOrMake 33 = .ok (.iload 4, 2) := by decide +kernel
theorem dX2_findOrMake_35 : decode cX2_findOrMake 35 = .ok (.ireturn, 1) := by decide +kernel
theorem dX2_findOrMake_36 : decode cX2_findOrMake 36 = .ok (.aload_n 0, 1) := by decide +kernel
theorem dX2_findOrMake_37 : decode cX2_findOrMake 37 = .ok (.getfield 21, 3) := by decide +kernel
theorem dX2_findOrMake_40 : decode cX2_findOrMake 40 = .ok (.istore 5, 2) := by decide +kernel
theorem dX2_findOrMake_42 : decode cX2_findOrMake 42 = .ok (.aload_n 0, 1) := by decide +kernel
theorem dX2_findOrMake_43 : decode cX2_findOrMake 43 = .ok (.getfield 9, 3) := by decide +kernel
theorem dX2_findOrMake_46 : decode cX2_findOrMake 46 = .ok (.iload 5, 2) := by decide +kernel
theorem dX2_findOrMake_48 : decode cX2_findOrMake 48 = .ok (.iload_n 1, 1) := by decide +kernel
theorem dX2_findOrMake_49 : decode cX2_findOrMake 49 = .ok (.iastore, 1) := by decide +kernel
theorem dX2_findOrMake_50 : decode cX2_findOrMake 50 = .ok (.aload_n 0, 1) := by decide +kernel
theorem dX2_findOrMake_51 : decode cX2_findOrMake 51 = .ok (.getfield 15, 3) := by decide +kernel
theorem dX2_findOrMake_54 : decode cX2_findOrMake 54 = .ok (.iload 5, 2) := by decide +kernel
theorem dX2_findOrMake_56 : decode cX2_findOrMake 56 = .ok (.iload_n 2, 1) := by decide +kernel
theorem dX2_findOrMake_57 : decode cX2_findOrMake 57 = .ok (.iastore, 1) := by decide +kernel
theorem dX2_findOrMake_58 : decode cX2_findOrMake 58 = .ok (.aload_n 0, 1) := by decide +kernel
theorem dX2_findOrMake_59 : decode cX2_findOrMake 59 = .ok (.getfield 18, 3) := by decide +kernel
theorem dX2_findOrMake_62 : decode cX2_findOrMake 62 = .ok (.iload 5, 2) := by decide +kernel
theorem dX2_findOrMake_64 : decode cX2_findOrMake 64 = .ok (.iload_n 3, 1) := by decide +kernel
theorem dX2_findOrMake_65 : decode cX2_findOrMake 65 = .ok (.iastore, 1) := by decide +kernel
theorem dX2_findOrMake_66 : decode cX2_findOrMake 66 = .ok (.aload_n 0, 1) := by decide +kernel
theorem dX2_findOrMake_67 : decode cX2_findOrMake 67 = .ok (.dup, 1) := by decide +kernel
theorem dX2_findOrMake_68 : decode cX2_findOrMake 68 = .ok (.getfield 21, 3) := by decide +kernel
theorem dX2_findOrMake_71 : decode cX2_findOrMake 71 = .ok (.iconst 1, 1) := by decide +kernel
theorem dX2_findOrMake_72 : decode cX2_findOrMake 72 = .ok (.iadd, 1) := by decide +kernel
theorem dX2_findOrMake_73 : decode cX2_findOrMake 73 = .ok (.putfield 21, 3) := by decide +kernel
theorem dX2_findOrMake_76 : decode cX2_findOrMake 76 = .ok (.iload 5, 2) := by decide +kernel
theorem dX2_findOrMake_78 : decode cX2_findOrMake 78 = .ok (.ireturn, 1) := by decide +kernel
theorem dX2_isOf_0 : decode cX2_isOf 0 = .ok (.iload_n 1, 1) := by decide +kernel
theorem dX2_isOf_1 : decode cX2_isOf 1 = .ok (.ifCond .lt 39, 3) := by decide +kernel
theorem dX2_isOf_4 : decode cX2_isOf 4 = .ok (.iload_n 1, 1) := by decide +kernel
theorem dX2_isOf_5 : decode cX2_isOf 5 = .ok (.aload_n 0, 1) := by decide +kernel
theorem dX2_isOf_6 : decode cX2_isOf 6 = .ok (.getfield 21, 3) := by decide +kernel
theorem dX2_isOf_9 : decode cX2_isOf 9 = .ok (.if_icmp .ge 31, 3) := by decide +kernel
theorem dX2_isOf_12 : decode cX2_isOf 12 = .ok (.aload_n 0, 1) := by decide +kernel
theorem dX2_isOf_13 : decode cX2_isOf 13 = .ok (.getfield 15, 3) := by decide +kernel
theorem dX2_isOf_16 : decode cX2_isOf 16 = .ok (.iload_n 1, 1) := by decide +kernel
theorem dX2_isOf_17 : decode cX2_isOf 17 = .ok (.invokestatic 33, 3) := by decide +kernel
theorem dX2_isOf_20 : decode cX2_isOf 20 = .ok (.iload_n 2, 1) := by decide +kernel
theorem dX2_isOf_21 : decode cX2_isOf 21 = .ok (.if_icmp .ne 19, 3) := by decide +kernel
theorem dX2_isOf_24 : decode cX2_isOf 24 = .ok (.aload_n 0, 1) := by decide +kernel
theorem dX2_isOf_25 : decode cX2_isOf 25 = .ok (.getfield 18, 3) := by decide +kernel
theorem dX2_isOf_28 : decode cX2_isOf 28 = .ok (.iload_n 1, 1) := by decide +kernel
theorem dX2_isOf_29 : decode cX2_isOf 29 = .ok (.invokestatic 33, 3) := by decide +kernel
theorem dX2_isOf_32 : decode cX2_isOf 32 = .ok (.iload_n 3, 1) := by decide +kernel
theorem dX2_isOf_33 : decode cX2_isOf 33 = .ok (.if_icmp .ne 7, 3) := by decide +kernel
theorem dX2_isOf_36 : decode cX2_isOf 36 = .ok (.iconst 1, 1) := by decide +kernel
theorem dX2_isOf_37 : decode cX2_isOf 37 = .ok (.goto 4, 3) := by decide +kernel
theorem dX2_isOf_40 : decode cX2_isOf 40 = .ok (.iconst 0, 1) := by decide +kernel
theorem dX2_isOf_41 : decode cX2_isOf 41 = .ok (.ireturn, 1) := by decide +kernel
theorem dX2_fillChain_0 : decode cX2_fillChain 0 = .ok (.iconst 0, 1) := by decide +kernel
theorem dX2_fillChain_1 : decode cX2_fillChain 1 = .ok (.istore_n 3, 1) := by decide +kernel
theorem dX2_fillChain_2 : decode cX2_fillChain 2 = .ok (.iload_n 1, 1) := by decide +kernel
theorem dX2_fillChain_3 : decode cX2_fillChain 3 = .ok (.istore 4, 2) := by decide +kernel
theorem dX2_fillChain_5 : decode cX2_fillChain 5 = .ok (.iload 4, 2) := by decide +kernel
theorem dX2_fillChain_7 : decode cX2_fillChain 7 = .ok (.iconst (-1), 1) := by decide +kernel
theorem dX2_fillChain_8 : decode cX2_fillChain 8 = .ok (.if_icmp .eq 31, 3) := by decide +kernel
theorem dX2_fillChain_11 : decode cX2_fillChain 11 = .ok (.iload_n 3, 1) := by decide +kernel
theorem dX2_fillChain_12 : decode cX2_fillChain 12 = .ok (.aload_n 2, 1) := by decide +kernel
theorem dX2_fillChain_13 : decode cX2_fillChain 13 = .ok (.arraylength, 1) := by decide +kernel
theorem dX2_fillChain_14 : decode cX2_fillChain 14 = .ok (.if_icmp .ge 25, 3) := by decide +kernel
theorem dX2_fillChain_17 : decode cX2_fillChain 17 = .ok (.aload_n 2, 1) := by decide +kernel
theorem dX2_fillChain_18 : decode cX2_fillChain 18 = .ok (.iload_n 3, 1) := by decide +kernel
theorem dX2_fillChain_19 : decode cX2_fillChain 19 = .ok (.iload 4, 2) := by decide +kernel
theorem dX2_fillChain_21 : decode cX2_fillChain 21 = .ok (.iastore, 1) := by decide +kernel
theorem dX2_fillChain_22 : decode cX2_fillChain 22 = .ok (.iinc 3 1, 3) := by decide +kernel
theorem dX2_fillChain_25 : decode cX2_fillChain 25 = .ok (.aload_n 0, 1) := by decide +kernel
theorem dX2_fillChain_26 : decode cX2_fillChain 26 = .ok (.getfield 9, 3) := by decide +kernel
theorem dX2_fillChain_29 : decode cX2_fillChain 29 = .ok (.iload 4, 2) := by decide +kernel
theorem dX2_fillChain_31 : decode cX2_fillChain 31 = .ok (.invokestatic 33, 3) := by decide +kernel
theorem dX2_fillChain_34 : decode cX2_fillChain 34 = .ok (.istore 4, 2) := by decide +kernel
theorem dX2_fillChain_36 : decode cX2_fillChain 36 = .ok (.goto (-31), 3) := by decide +kernel
theorem dX2_fillChain_39 : decode cX2_fillChain 39 = .ok (.iload_n 3, 1) := by decide +kernel
theorem dX2_fillChain_40 : decode cX2_fillChain 40 = .ok (.ireturn, 1) := by decide +kernel
theorem dX3_init_0 : decode cX3_init 0 = .ok (.aload_n 0, 1) := by decide +kernel
theorem dX3_init_1 : decode cX3_init 1 = .ok (.invokespecial 1, 3) := by decide +kernel
theorem dX3_init_4 : decode cX3_init 4 = .ok (.aload_n 0, 1) := by decide +kernel
theorem dX3_init_5 : decode cX3_init 5 = .ok (.iload_n 1, 1) := by decide +kernel
theorem dX3_init_6 : decode cX3_init 6 = .ok (.putfield 7, 3) := by decide +kernel
theorem dX3_init_9 : decode cX3_init 9 = .ok (.aload_n 0, 1) := by decide +kernel
theorem dX3_init_10 : decode cX3_init 10 = .ok (.aload_n 2, 1) := by decide +kernel
theorem dX3_init_11 : decode cX3_init 11 = .ok (.putfield 13, 3) := by decide +kernel
theorem dX3_init_14 : decode cX3_init 14 = .ok (.aload_n 0, 1) := by decide +kernel
theorem dX3_init_15 : decode cX3_init 15 = .ok (.iload_n 3, 1) := by decide +kernel
theorem dX3_init_16 : decode cX3_init 16 = .ok (.putfield 17, 3) := by decide +kernel
theorem dX3_init_19 : decode cX3_init 19 = .ok (.aload_n 0, 1) := by decide +kernel
theorem dX3_init_20 : decode cX3_init 20 = .ok (.iload 4, 2) := by decide +kernel
theorem dX3_init_22 : decode cX3_init 22 = .ok (.putfield 20, 3) := by decide +kernel
theorem dX3_init_25 : decode cX3_init 25 = .ok (.aload_n 0, 1) := by decide +kernel
theorem dX3_init_26 : decode cX3_init 26 = .ok (.aload 5, 2) := by decide +kernel
theorem dX3_init_28 : decode cX3_init 28 = .ok (.putfield 23, 3) := by decide +kernel
theorem dX3_init_31 : decode cX3_init 31 = .ok (.return_, 1) := by decide +kernel
theorem dX4_init_0 : decode cX4_init 0 = .ok (.aload_n 0, 1) := by decide +kernel
theorem dX4_init_1 : decode cX4_init 1 = .ok (.invokespecial 3, 3) := by decide +kernel
theorem dX4_init_4 : decode cX4_init 4 = .ok (.aload_n 0, 1) := by decide +kernel
theorem dX4_init_5 : decode cX4_init 5 = .ok (.new 9, 3) := by decide +kernel
theorem dX4_init_8 : decode cX4_init 8 = .ok (.dup, 1) := by decide +kernel
theorem dX4_init_9 : decode cX4_init 9 = .ok (.invokespecial 11, 3) := by decide +kernel
theorem dX4_init_12 : decode cX4_init 12 = .ok (.putfield 12, 3) := by decide +kernel
theorem dX4_init_15 : decode cX4_init 15 = .ok (.aload_n 0, 1) := by decide +kernel
theorem dX4_init_16 : decode cX4_init 16 = .ok (.bipush 10, 2) := by decide +kernel
theorem dX4_init_18 : decode cX4_init 18 = .ok (.newarray .int, 2) := by decide +kernel
theorem dX4_init_20 : decode cX4_init 20 = .ok (.putfield 16, 3) := by decide +kernel
theorem dX4_init_23 : decode cX4_init 23 = .ok (.aload_n 0, 1) := by decide +kernel
theorem dX4_init_24 : decode cX4_init 24 = .ok (.bipush 10, 2) := by decide +kernel
theorem dX4_init_26 : decode cX4_init 26 = .ok (.newarray .int, 2) := by decide +kernel
theorem dX4_init_28 : decode cX4_init 28 = .ok (.putfield 20, 3) := by decide +kernel
theorem dX4_init_31 : decode cX4_init 31 = .ok (.aload_n 0, 1) := by decide +kernel
theorem dX4_init_32 : decode cX4_init 32 = .ok (.bipush 10, 2) := by decide +kernel
theorem dX4_init_34 : decode cX4_init 34 = .ok (.anewarray 23, 3) := by decide +kernel
theorem dX4_init_37 : decode cX4_init 37 = .ok (.putfield 25, 3) := by decide +kernel
theorem dX4_init_40 : decode cX4_init 40 = .ok (.aload_n 0, 1) := by decide +kernel
theorem dX4_init_41 : decode cX4_init 41 = .ok (.bipush 60, 2) := by decide +kernel
theorem dX4_init_43 : decode cX4_init 43 = .ok (.anewarray 29, 3) := by decide +kernel
theorem dX4_init_46 : decode cX4_init 46 = .ok (.putfield 31, 3) := by decide +kernel
theorem dX4_init_49 : decode cX4_init 49 = .ok (.aload_n 0, 1) := by decide +kernel
theorem dX4_init_50 : decode cX4_init 50 = .ok (.bipush 30, 2) := by decide +kernel
theorem dX4_init_52 : decode cX4_init 52 = .ok (.anewarray 35, 3) := by decide +kernel
theorem dX4_init_55 : decode cX4_init 55 = .ok (.putfield 37, 3) := by decide +kernel
theorem dX4_init_58 : decode cX4_init 58 = .ok (.aload_n 0, 1) := by decide +kernel
theorem dX4_init_59 : decode cX4_init 59 = .ok (.iconst 3, 1) := by decide +kernel
theorem dX4_init_60 : decode cX4_init 60 = .ok (.newarray .int, 2) := by decide +kernel
theorem dX4_init_62 : decode cX4_init 62 = .ok (.putfield 41, 3) := by decide +kernel
theorem dX4_init_65 : decode cX4_init 65 = .ok (.aload_n 0, 1) := by decide +kernel
theorem dX4_init_66 : decode cX4_init 66 = .ok (.bipush 10, 2) := by decide +kernel
theorem dX4_init_68 : decode cX4_init 68 = .ok (.anewarray 23, 3) := by decide +kernel
theorem dX4_init_71 : decode cX4_init 71 = .ok (.putfield 44, 3) := by decide +kernel
theorem dX4_init_74 : decode cX4_init 74 = .ok (.aload_n 0, 1) := by decide +kernel
theorem dX4_init_75 : decode cX4_init 75 = .ok (.bipush 10, 2) := by decide +kernel
theorem dX4_init_77 : decode cX4_init 77 = .ok (.anewarray 23, 3) := by decide +kernel
theorem dX4_init_80 : decode cX4_init 80 = .ok (.putfield 47, 3) := by decide +kernel
theorem dX4_init_83 : decode cX4_init 83 = .ok (.aload_n 0, 1) := by decide +kernel
theorem dX4_init_84 : decode cX4_init 84 = .ok (.bipush 50, 2) := by decide +kernel
theorem dX4_init_86 : decode cX4_init 86 = .ok (.newarray .int, 2) := by decide +kernel
theorem dX4_init_88 : decode cX4_init 88 = .ok (.putfield 50, 3) := by decide +kernel
theorem dX4_init_91 : decode cX4_init 91 = .ok (.aload_n 0, 1) := by decide +kernel
theorem dX4_init_92 : decode cX4_init 92 = .ok (.bipush 30, 2) := by decide +kernel
theorem dX4_init_94 : decode cX4_init 94 = .ok (.anewarray 35, 3) := by decide +kernel
theorem dX4_init_97 : decode cX4_init 97 = .ok (.putfield 53, 3) := by decide +kernel
theorem dX4_init_100 : decode cX4_init 100 = .ok (.iconst 0, 1) := by decide +kernel
theorem dX4_init_101 : decode cX4_init 101 = .ok (.istore_n 1, 1) := by decide +kernel
theorem dX4_init_102 : decode cX4_init 102 = .ok (.iload_n 1, 1) := by decide +kernel
theorem dX4_init_103 : decode cX4_init 103 = .ok (.aload_n 0, 1) := by decide +kernel
theorem dX4_init_104 : decode cX4_init 104 = .ok (.getfield 41, 3) := by decide +kernel
theorem dX4_init_107 : decode cX4_init 107 = .ok (.arraylength, 1) := by decide +kernel
theorem dX4_init_108 : decode cX4_init 108 = .ok (.if_icmp .ge 16, 3) := by decide +kernel
theorem dX4_init_111 : decode cX4_init 111 = .ok (.aload_n 0, 1) := by decide +kernel
theorem dX4_init_112 : decode cX4_init 112 = .ok (.getfield 41, 3) := by decide +kernel
theorem dX4_init_115 : decode cX4_init 115 = .ok (.iload_n 1, 1) := by decide +kernel
theorem dX4_init_116 : decode cX4_init 116 = .ok (.iconst 1, 1) := by decide +kernel
theorem dX4_init_117 : decode cX4_init 117 = .ok (.iastore, 1) := by decide +kernel
theorem dX4_init_118 : decode cX4_init 118 = .ok (.iinc 1 1, 3) := by decide +kernel
theorem dX4_init_121 : decode cX4_init 121 = .ok (.goto (-19), 3) := by decide +kernel
theorem dX4_init_124 : decode cX4_init 124 = .ok (.aload_n 0, 1) := by decide +kernel
theorem dX4_init_125 : decode cX4_init 125 = .ok (.bipush 10, 2) := by decide +kernel
theorem dX4_init_127 : decode cX4_init 127 = .ok (.putfield 56, 3) := by decide +kernel
theorem dX4_init_130 : decode cX4_init 130 = .ok (.aload_n 0, 1) := by decide +kernel
theorem dX4_init_131 : decode cX4_init 131 = .ok (.bipush 20, 2) := by decide +kernel
theorem dX4_init_133 : decode cX4_init 133 = .ok (.putfield 60, 3) := by decide +kernel
theorem dX4_init_136 : decode cX4_init 136 = .ok (.return_, 1) := by decide +kernel
theorem dX4_add_0 : decode cX4_add 0 = .ok (.iload_n 1, 1) := by decide +kernel
theorem dX4_add_1 : decode cX4_add 1 = .ok (.iconst (-1), 1) := by decide +kernel
theorem dX4_add_2 : decode cX4_add 2 = .ok (.if_icmp .ne 7, 3) := by decide +kernel
theorem dX4_add_5 : decode cX4_add 5 = .ok (.aconst_null, 1) := by decide +kernel
theorem dX4_add_6 : decode cX4_add 6 = .ok (.goto 8, 3) := by decide +kernel
theorem dX4_add_9 : decode cX4_add 9 = .ok (.aload_n 0, 1) := by decide +kernel
theorem dX4_add_10 : decode cX4_add 10 = .ok (.iload_n 1, 1) := by decide +kernel
theorem dX4_add_11 : decode cX4_add 11 = .ok (.invokevirtual 63, 3) := by decide +kernel
theorem dX4_add_14 : decode cX4_add 14 = .ok (.astore_n 2, 1) := by decide +kernel
theorem dX4_add_15 : decode cX4_add 15 = .ok (.aload_n 0, 1) := by decide +kernel
theorem dX4_add_16 : decode cX4_add 16 = .ok (.getfield 67, 3) := by decide +kernel
theorem dX4_add_19 : decode cX4_add 19 = .ok (.ifCond .lt 15, 3) := by decide +kernel
theorem dX4_add_22 : decode cX4_add 22 = .ok (.aload_n 0, 1) := by decide +kernel
theorem dX4_add_23 : decode cX4_add 23 = .ok (.getfield 67, 3) := by decide +kernel
theorem dX4_add_26 : decode cX4_add 26 = .ok (.aload_n 0, 1) := by decide +kernel
theorem dX4_add_27 : decode cX4_add 27 = .ok (.getfield 25, 3) := by decide +kernel
theorem dX4_add_30 : decode cX4_add 30 = .ok (.arraylength, 1) := by decide +kernel
theorem dX4_add_31 : decode cX4_add 31 = .ok (.if_icmp .lt 13, 3) := by decide +kernel
theorem dX4_add_34 : decode cX4_add 34 = .ok (.new 70, 3) := by decide +kernel
theorem dX4_add_37 : decode cX4_add 37 = .ok (.dup, 1) := by decide +kernel
theorem dX4_add_38 : decode cX4_add 38 = .ok (.ldc 72, 2) := by decide +kernel
theorem dX4_add_40 : decode cX4_add 40 = .ok (.invokespecial 74, 3) := by decide +kernel
theorem dX4_add_43 : decode cX4_add 43 = .ok (.athrow, 1) := by decide +kernel
theorem dX4_add_44 : decode cX4_add 44 = .ok (.new 23, 3) := by decide +kernel
theorem dX4_add_47 : decode cX4_add 47 = .ok (.dup, 1) := by decide +kernel
theorem dX4_add_48 : decode cX4_add 48 = .ok (.aload_n 0, 1) := by decide +kernel
theorem dX4_add_49 : decode cX4_add 49 = .ok (.getfield 67, 3) := by decide +kernel
theorem dX4_add_52 : decode cX4_add 52 = .ok (.aload_n 2, 1) := by decide +kernel
theorem dX4_add_53 : decode cX4_add 53 = .ok (.invokespecial 77, 3) := by decide +kernel
theorem dX4_add_56 : decode cX4_add 56 = .ok (.astore_n 3, 1) := by decide +kernel
theorem dX4_add_57 : decode cX4_add 57 = .ok (.aload_n 0, 1) := by decide +kernel
theorem dX4_add_58 : decode cX4_add 58 = .ok (.getfield 25, 3) := by decide +kernel
theorem dX4_add_61 : decode cX4_add 61 = .ok (.aload_n 0, 1) := by decide +kernel
theorem dX4_add_62 : decode cX4_add 62 = .ok (.getfield 67, 3) := by decide +kernel
theorem dX4_add_65 : decode cX4_add 65 = .ok (.aload_n 3, 1) := by decide +kernel
theorem dX4_add_66 : decode cX4_add 66 = .ok (.aastore, 1) := by decide +kernel
theorem dX4_add_67 : decode cX4_add 67 = .ok (.aload_n 0, 1) := by decide +kernel
theorem dX4_add_68 : decode cX4_add 68 = .ok (.dup, 1) := by decide +kernel
theorem dX4_add_69 : decode cX4_add 69 = .ok (.getfield 67, 3) := by decide +kernel
theorem dX4_add_72 : decode cX4_add 72 = .ok (.iconst 1, 1) := by decide +kernel
theorem dX4_add_73 : decode cX4_add 73 = .ok (.iadd, 1) := by decide +kernel
theorem dX4_add_74 : decode cX4_add 74 = .ok (.putfield 67, 3) := by decide +kernel
theorem dX4_add_77 : decode cX4_add 77 = .ok (.aload_n 3, 1) := by decide +kernel
theorem dX4_add_78 : decode cX4_add 78 = .ok (.getfield 80, 3) := by decide +kernel
theorem dX4_add_81 : decode cX4_add 81 = .ok (.ireturn, 1) := by decide +kernel
theorem dX4_step_0 : decode cX4_step 0 = .ok (.aload_n 0, 1) := by decide +kernel
theorem dX4_step_1 : decode cX4_step 1 = .ok (.iload_n 1, 1) := by decide +kernel
theorem dX4_step_2 : decode cX4_step 2 = .ok (.invokevirtual 63, 3) := by decide +kernel
theorem dX4_step_5 : decode cX4_step 5 = .ok (.astore_n 3, 1) := by decide +kernel
theorem dX4_step_6 : decode cX4_step 6 = .ok (.iload_n 2, 1) := by decide +kernel
theorem dX4_step_7 : decode cX4_step 7 = .ok (.ifCond .lt 9, 3) := by decide +kernel
theorem dX4_step_10 : decode cX4_step 10 = .ok (.iload_n 2, 1) := by decide +kernel
theorem dX4_step_11 : decode cX4_step 11 = .ok (.bipush 10, 2) := by decide +kernel
theorem dX4_step_13 : decode cX4_step 13 = .ok (.if_icmp .lt 13, 3) := by decide +kernel
theorem dX4_step_16 : decode cX4_step 16 = .ok (.new 83, 3) := by decide +kernel
theorem dX4_step_19 : decode cX4_step 19 = .ok (.dup, 1) := by decide +kernel
theorem dX4_step_20 : decode cX4_step 20 = .ok (.ldc 85, 2) := by decide +kernel
theorem dX4_step_22 : decode cX4_step 22 = .ok (.invokespecial 87, 3) := by decide +kernel
theorem dX4_step_25 : decode cX4_step 25 = .ok (.athrow, 1) := by decide +kernel
theorem dX4_step_26 : decode cX4_step 26 = .ok (.aload_n 3, 1) := by decide +kernel
theorem dX4_step_27 : decode cX4_step 27 = .ok (.iload_n 2, 1) := by decide +kernel
theorem dX4_step_28 : decode cX4_step 28 = .ok (.invokevirtual 88, 3) := by decide +kernel
theorem dX4_step_31 : decode cX4_step 31 = .ok (.ifCond .ne 13, 3) := by decide +kernel
theorem dX4_step_34 : decode cX4_step 34 = .ok (.new 70, 3) := by decide +kernel
theorem dX4_step_37 : decode cX4_step 37 = .ok (.dup, 1) := by decide +kernel
theorem dX4_step_38 : decode cX4_step 38 = .ok (.ldc 92, 2) := by decide +kernel
theorem dX4_step_40 : decode cX4_step 40 = .ok (.invokespecial 74, 3) := by decide +kernel
theorem dX4_step_43 : decode cX4_step 43 = .ok (.athrow, 1) := by decide +kernel
theorem dX4_step_44 : decode cX4_step 44 = .ok (.aload_n 3, 1) := by decide +kernel
theorem dX4_step_45 : decode cX4_step 45 = .ok (.getfield 94, 3) := by decide +kernel
theorem dX4_step_48 : decode cX4_step 48 = .ok (.ireturn, 1) := by decide +kernel
theorem dX4_change_0 : decode cX4_change 0 = .ok (.iload_n 1, 1) := by decide +kernel
theorem dX4_change_1 : decode cX4_change 1 = .ok (.ifCond .lt 21, 3) := by decide +kernel
theorem dX4_change_4 : decode cX4_change 4 = .ok (.iload_n 1, 1) := by decide +kernel
theorem dX4_change_5 : decode cX4_change 5 = .ok (.aload_n 0, 1) := by decide +kernel
theorem dX4_change_6 : decode cX4_change 6 = .ok (.getfield 16, 3) := by decide +kernel
theorem dX4_change_9 : decode cX4_change 9 = .ok (.arraylength, 1) := by decide +kernel
theorem dX4_change_10 : decode cX4_change 10 = .ok (.if_icmp .ge 12, 3) := by decide +kernel
theorem dX4_change_13 : decode cX4_change 13 = .ok (.iload_n 1, 1) := by decide +kernel
theorem dX4_change_14 : decode cX4_change 14 = .ok (.aload_n 0, 1) := by decide +kernel
theorem dX4_change_15 : decode cX4_change 15 = .ok (.getfield 20, 3) := by decide +kernel
theorem dX4_change_18 : decode cX4_change 18 = .ok (.arraylength, 1) := by decide +kernel
theorem dX4_change_19 : decode cX4_change 19 = .ok (.if_icmp .lt 13, 3) := by decide +kernel
theorem dX4_change_22 : decode cX4_change 22 = .ok (.new 83, 3) := by decide +kernel
theorem dX4_change_25 : decode cX4_change 25 = .ok (.dup, 1) := by decide +kernel
theorem dX4_change_26 : decode cX4_change 26 = .ok (.ldc 85, 2) := by decide +kernel
theorem dX4_change_28 : decode cX4_change 28 = .ok (.invokespecial 87, 3) := by decide +kernel
theorem dX4_change_31 : decode cX4_change 31 = .ok (.athrow, 1) := by decide +kernel
theorem dX4_change_32 : decode cX4_change 32 = .ok (.iload_n 2, 1) := by decide +kernel
theorem dX4_change_33 : decode cX4_change 33 = .ok (.iconst (-1), 1) := by decide +kernel
theorem dX4_change_34 : decode cX4_change 34 = .ok (.if_icmp .lt 13, 3) := by decide +kernel
theorem dX4_change_37 : decode cX4_change 37 = .ok (.iload_n 2, 1) := by decide +kernel
theorem dX4_change_38 : decode cX4_change 38 = .ok (.aload_n 0, 1) := by decide +kernel
theorem dX4_change_39 : decode cX4_change 39 = .ok (.getfield 20, 3) := by decide +kernel
theorem dX4_change_42 : decode cX4_change 42 = .ok (.iload_n 1, 1) := by decide +kernel
theorem dX4_change_43 : decode cX4_change 43 = .ok (.iaload, 1) := by decide +kernel
theorem dX4_change_44 : decode cX4_change 44 = .ok (.if_icmp .lt 13, 3) := by decide +kernel
theorem dX4_change_47 : decode cX4_change 47 = .ok (.new 83, 3) := by decide +kernel
theorem dX4_change_50 : decode cX4_change 50 = .ok (.dup, 1) := by decide +kernel
theorem dX4_change_51 : decode cX4_change 51 = .ok (.ldc 97, 2) := by decide +kernel
theorem dX4_change_53 : decode cX4_change 53 = .ok (.invokespecial 87, 3) := by decide +kernel
theorem dX4_change_56 : decode cX4_change 56 = .ok (.athrow, 1) := by decide +kernel
theorem dX4_change_57 : decode cX4_change 57 = .ok (.iload_n 2, 1) := by decide +kernel
theorem dX4_change_58 : decode cX4_change 58 = .ok (.iconst (-1), 1) := by decide +kernel
theorem dX4_change_59 : decode cX4_change 59 = .ok (.if_icmp .ne 13, 3) := by decide +kernel
theorem dX4_change_62 : decode cX4_change 62 = .ok (.aload_n 0, 1) := by decide +kernel
theorem dX4_change_63 : decode cX4_change 63 = .ok (.getfield 20, 3) := by decide +kernel
theorem dX4_change_66 : decode cX4_change 66 = .ok (.iload_n 1, 1) := by decide +kernel
theorem dX4_change_67 : decode cX4_change 67 = .ok (.dup2, 1) := by decide +kernel
theorem dX4_change_68 : decode cX4_change 68 = .ok (.iaload, 1) := by decide +kernel
theorem dX4_change_69 : decode cX4_change 69 = .ok (.iconst 1, 1) := by decide +kernel
theorem dX4_change_70 : decode cX4_change 70 = .ok (.iadd, 1) := by decide +kernel
theorem dX4_change_71 : decode cX4_change 71 = .ok (.iastore, 1) := by decide +kernel
theorem dX4_change_72 : decode cX4_change 72 = .ok (.aload_n 0, 1) := by decide +kernel
theorem dX4_change_73 : decode cX4_change 73 = .ok (.getfield 16, 3) := by decide +kernel
theorem dX4_change_76 : decode cX4_change 76 = .ok (.iload_n 1, 1) := by decide +kernel
theorem dX4_change_77 : decode cX4_change 77 = .ok (.iload_n 2, 1) := by decide +kernel
theorem dX4_change_78 : decode cX4_change 78 = .ok (.iconst (-1), 1) := by decide +kernel
theorem dX4_change_79 : decode cX4_change 79 = .ok (.if_icmp .ne 12, 3) := by decide +kernel
theorem dX4_change_82 : decode cX4_change 82 = .ok (.aload_n 0, 1) := by decide +kernel
theorem dX4_change_83 : decode cX4_change 83 = .ok (.getfield 20, 3) := by decide +kernel
theorem dX4_change_86 : decode cX4_change 86 = .ok (.iload_n 1, 1) := by decide +kernel
theorem dX4_change_87 : decode cX4_change 87 = .ok (.iaload, 1) := by decide +kernel
theorem dX4_change_88 : decode cX4_change 88 = .ok (.goto 4, 3) := by decide +kernel
theorem dX4_change_91 : decode cX4_change 91 = .ok (.iload_n 2, 1) := by decide +kernel
theorem dX4_change_92 : decode cX4_change 92 = .ok (.iastore, 1) := by decide +kernel
theorem dX4_change_93 : decode cX4_change 93 = .ok (.aload_n 0, 1) := by decide +kernel
theorem dX4_change_94 : decode cX4_change 94 = .ok (.getfield 16, 3) := by decide +kernel
theorem dX4_change_97 : decode cX4_change 97 = .ok (.iload_n 1, 1) := by decide +kernel
theorem dX4_change_98 : decode cX4_change 98 = .ok (.iaload, 1) := by decide +kernel
theorem dX4_change_99 : decode cX4_change 99 = .ok (.ireturn, 1) := by decide +kernel
theorem dX4_bake_0 : decode cX4_bake 0 = .ok (.aload_n 0, 1) := by decide +kernel
theorem dX4_bake_1 : decode cX4_bake 1 = .ok (.iload_n 1, 1) := by decide +kernel
theorem dX4_bake_2 : decode cX4_bake 2 = .ok (.invokevirtual 63, 3) := by decide +kernel
theorem dX4_bake_5 : decode cX4_bake 5 = .ok (.astore_n 2, 1) := by decide +kernel
theorem dX4_bake_6 : decode cX4_bake 6 = .ok (.aload_n 2, 1) := by decide +kernel
theorem dX4_bake_7 : decode cX4_bake 7 = .ok (.getfield 99, 3) := by decide +kernel
theorem dX4_bake_10 : decode cX4_bake 10 = .ok (.ifnull 23, 3) := by decide +kernel
theorem dX4_bake_13 : decode cX4_bake 13 = .ok (.aload_n 2, 1) := by decide +kernel
theorem dX4_bake_14 : decode cX4_bake 14 = .ok (.getfield 99, 3) := by decide +kernel
theorem dX4_bake_17 : decode cX4_bake 17 = .ok (.getfield 103, 3) := by decide +kernel
theorem dX4_bake_20 : decode cX4_bake 20 = .ok (.ifnonnull 13, 3) := by decide +kernel
theorem dX4_bake_23 : decode cX4_bake 23 = .ok (.new 70, 3) := by decide +kernel
theorem dX4_bake_26 : decode cX4_bake 26 = .ok (.dup, 1) := by decide +kernel
theorem dX4_bake_27 : decode cX4_bake 27 = .ok (.ldc 107, 2) := by decide +kernel
theorem dX4_bake_29 : decode cX4_bake 29 = .ok (.invokespecial 74, 3) := by decide +kernel
theorem dX4_bake_32 : decode cX4_bake 32 = .ok (.athrow, 1) := by decide +kernel
theorem dX4_bake_33 : decode cX4_bake 33 = .ok (.aload_n 0, 1) := by decide +kernel
theorem dX4_bake_34 : decode cX4_bake 34 = .ok (.aload_n 2, 1) := by decide +kernel
theorem dX4_bake_35 : decode cX4_bake 35 = .ok (.invokevirtual 109, 3) := by decide +kernel
theorem dX4_bake_38 : decode cX4_bake 38 = .ok (.ifCond .eq 22, 3) := by decide +kernel
theorem dX4_bake_41 : decode cX4_bake 41 = .ok (.aload_n 0, 1) := by decide +kernel
theorem dX4_bake_42 : decode cX4_bake 42 = .ok (.getfield 113, 3) := by decide +kernel
theorem dX4_bake_45 : decode cX4_bake 45 = .ok (.bipush 60, 2) := by decide +kernel
theorem dX4_bake_47 : decode cX4_bake 47 = .ok (.if_icmp .lt 13, 3) := by decide +kernel
theorem dX4_bake_50 : decode cX4_bake 50 = .ok (.new 70, 3) := by decide +kernel
theorem dX4_bake_53 : decode cX4_bake 53 = .ok (.dup, 1) := by decide +kernel
theorem dX4_bake_54 : decode cX4_bake 54 = .ok (.ldc 116, 2) := by decide +kernel
theorem dX4_bake_56 : decode cX4_bake 56 = .ok (.invokespecial 74, 3) := by decide +kernel
theorem dX4_bake_59 : decode cX4_bake 59 = .ok (.athrow, 1) := by decide +kernel
theorem dX4_bake_60 : decode cX4_bake 60 = .ok (.aload_n 0, 1) := by decide +kernel
theorem dX4_bake_61 : decode cX4_bake 61 = .ok (.aload_n 2, 1) := by decide +kernel
theorem dX4_bake_62 : decode cX4_bake 62 = .ok (.invokevirtual 118, 3) := by decide +kernel
theorem dX4_bake_65 : decode cX4_bake 65 = .ok (.aload_n 2, 1) := by decide +kernel
theorem dX4_bake_66 : decode cX4_bake 66 = .ok (.getfield 103, 3) := by decide +kernel
theorem dX4_bake_69 : decode cX4_bake 69 = .ok (.invokestatic 122, 3) := by decide +kernel
theorem dX4_bake_72 : decode cX4_bake 72 = .ok (.ireturn, 1) := by decide +kernel
theorem dX4_bakeAll_0 : decode cX4_bakeAll 0 = .ok (.aload_n 0, 1) := by decide +kernel
theorem dX4_bakeAll_1 : decode cX4_bakeAll 1 = .ok (.getfield 113, 3) := by decide +kernel
theorem dX4_bakeAll_4 : decode cX4_bakeAll 4 = .ok (.istore_n 1, 1) := by decide +kernel
theorem dX4_bakeAll_5 : decode cX4_bakeAll 5 = .ok (.iload_n 1, 1) := by decide +kernel
theorem dX4_bakeAll_6 : decode cX4_bakeAll 6 = .ok (.aload_n 0, 1) := by decide +kernel
theorem dX4_bakeAll_7 : decode cX4_bakeAll 7 = .ok (.invokevirtual 126, 3) := by decide +kernel
theorem dX4_bakeAll_10 : decode cX4_bakeAll 10 = .ok (.iadd, 1) := by decide +kernel
theorem dX4_bakeAll_11 : decode cX4_bakeAll 11 = .ok (.bipush 60, 2) := by decide +kernel
theorem dX4_bakeAll_13 : decode cX4_bakeAll 13 = .ok (.if_icmp .le 13, 3) := by decide +kernel
theorem dX4_bakeAll_16 : decode cX4_bakeAll 16 = .ok (.new 70, 3) := by decide +kernel
theorem dX4_bakeAll_19 : decode cX4_bakeAll 19 = .ok (.dup, 1) := by decide +kernel
theorem dX4_bakeAll_20 : decode cX4_bakeAll 20 = .ok (.ldc 130, 2) := by decide +kernel
theorem dX4_bakeAll_22 : decode cX4_bakeAll 22 = .ok (.invokespecial 74, 3) := by decide +kernel
theorem dX4_bakeAll_25 : decode cX4_bakeAll 25 = .ok (.athrow, 1) := by decide +kernel
theorem dX4_bakeAll_26 : decode cX4_bakeAll 26 = .ok (.aload_n 0, 1) := by decide +kernel
theorem dX4_bakeAll_27 : decode cX4_bakeAll 27 = .ok (.invokevirtual 132, 3) := by decide +kernel
theorem dX4_bakeAll_30 : decode cX4_bakeAll 30 = .ok (.aload_n 0, 1) := by decide +kernel
theorem dX4_bakeAll_31 : decode cX4_bakeAll 31 = .ok (.getfield 44, 3) := by decide +kernel
theorem dX4_bakeAll_34 : decode cX4_bakeAll 34 = .ok (.astore_n 2, 1) := by decide +kernel
theorem dX4_bakeAll_35 : decode cX4_bakeAll 35 = .ok (.aload_n 2, 1) := by decide +kernel
theorem dX4_bakeAll_36 : decode cX4_bakeAll 36 = .ok (.arraylength, 1) := by decide +kernel
theorem dX4_bakeAll_37 : decode cX4_bakeAll 37 = .ok (.istore_n 3, 1) := by decide +kernel
theorem dX4_bakeAll_38 : decode cX4_bakeAll 38 = .ok (.iconst 0, 1) := by decide +kernel
theorem dX4_bakeAll_39 : decode cX4_bakeAll 39 = .ok (.istore 4, 2) := by decide +kernel
theorem dX4_bakeAll_41 : decode cX4_bakeAll 41 = .ok (.iload 4, 2) := by decide +kernel
theorem dX4_bakeAll_43 : decode cX4_bakeAll 43 = .ok (.iload_n 3, 1) := by decide +kernel
theorem dX4_bakeAll_44 : decode cX4_bakeAll 44 = .ok (.if_icmp .ge 21, 3) := by decide +kernel
theorem dX4_bakeAll_47 : decode cX4_bakeAll 47 = .ok (.aload_n 2, 1) := by decide +kernel
theorem dX4_bakeAll_48 : decode cX4_bakeAll 48 = .ok (.iload 4, 2) := by decide +kernel
theorem dX4_bakeAll_50 : decode cX4_bakeAll 50 = .ok (.aaload, 1) := by decide +kernel
theorem dX4_bakeAll_51 : decode cX4_bakeAll 51 = .ok (.astore 5, 2) := by decide +kernel
theorem dX4_bakeAll_53 : decode cX4_bakeAll 53 = .ok (.aload_n 0, 1) := by decide +kernel
theorem dX4_bakeAll_54 : decode cX4_bakeAll 54 = .ok (.aload 5, 2) := by decide +kernel
theorem dX4_bakeAll_56 : decode cX4_bakeAll 56 = .ok (.invokevirtual 118, 3) := by decide +kernel
theorem dX4_bakeAll_59 : decode cX4_bakeAll 59 = .ok (.iinc 4 1, 3) := by decide +kernel
theorem dX4_bakeAll_62 : decode cX4_bakeAll 62 = .ok (.goto (-21), 3) := by decide +kernel
theorem dX4_bakeAll_65 : decode cX4_bakeAll 65 = .ok (.aload_n 0, 1) := by decide +kernel
theorem dX4_bakeAll_66 : decode cX4_bakeAll 66 = .ok (.getfield 113, 3) := by decide +kernel
theorem dX4_bakeAll_69 : decode cX4_bakeAll 69 = .ok (.iload_n 1, 1) := by decide +kernel
theorem dX4_bakeAll_70 : decode cX4_bakeAll 70 = .ok (.isub, 1) := by decide +kernel
theorem dX4_bakeAll_71 : decode cX4_bakeAll 71 = .ok (.ireturn, 1) := by decide +kernel
theorem dX4_isFresh_0 : decode cX4_isFresh 0 = .ok (.aload_n 0, 1) := by decide +kernel
theorem dX4_isFresh_1 : decode cX4_isFresh 1 = .ok (.iload_n 1, 1) := by decide +kernel
theorem dX4_isFresh_2 : decode cX4_isFresh 2 = .ok (.invokevirtual 63, 3) := by decide +kernel
theorem dX4_isFresh_5 : decode cX4_isFresh 5 = .ok (.astore_n 2, 1) := by decide +kernel
theorem dX4_isFresh_6 : decode cX4_isFresh 6 = .ok (.aload_n 2, 1) := by decide +kernel
theorem dX4_isFresh_7 : decode cX4_isFresh 7 = .ok (.ifnull 21, 3) := by decide +kernel
theorem dX4_isFresh_10 : decode cX4_isFresh 10 = .ok (.aload_n 0, 1) := by decide +kernel
theorem dX4_isFresh_11 : decode cX4_isFresh 11 = .ok (.aload_n 2, 1) := by decide +kernel
theorem dX4_isFresh_12 : decode cX4_isFresh 12 = .ok (.invokevirtual 109, 3) := by decide +kernel
theorem dX4_isFresh_15 : decode cX4_isFresh 15 = .ok (.ifCond .eq 5, 3) := by decide +kernel
theorem dX4_isFresh_18 : decode cX4_isFresh 18 = .ok (.iconst 0, 1) := by decide +kernel
theorem dX4_isFresh_19 : decode cX4_isFresh 19 = .ok (.ireturn, 1) := by decide +kernel
theorem dX4_isFresh_20 : decode cX4_isFresh 20 = .ok (.aload_n 2, 1) := by decide +kernel
theorem dX4_isFresh_21 : decode cX4_isFresh 21 = .ok (.getfield 99, 3) := by decide +kernel
theorem dX4_isFresh_24 : decode cX4_isFresh 24 = .ok (.astore_n 2, 1) := by decide +kernel
theorem dX4_isFresh_25 : decode cX4_isFresh 25 = .ok (.goto (-19), 3) := by decide +kernel
theorem dX4_isFresh_28 : decode cX4_isFresh 28 = .ok (.iconst 1, 1) := by decide +kernel
theorem dX4_isFresh_29 : decode cX4_isFresh 29 = .ok (.ireturn, 1) := by decide +kernel
theorem dX4_isFreshAnew_0 : decode cX4_isFreshAnew 0 = .ok (.aload_n 0, 1) := by decide +kernel
theorem dX4_isFreshAnew_1 : decode cX4_isFreshAnew 1 = .ok (.iload_n 1, 1) := by decide +kernel
theorem dX4_isFreshAnew_2 : decode cX4_isFreshAnew 2 = .ok (.invokevirtual 63, 3) := by decide +kernel
theorem dX4_isFreshAnew_5 : decode cX4_isFreshAnew 5 = .ok (.astore_n 2, 1) := by decide +kernel
theorem dX4_isFreshAnew_6 : decode cX4_isFreshAnew 6 = .ok (.aload_n 2, 1) := by decide +kernel
theorem dX4_isFreshAnew_7 : decode cX4_isFreshAnew 7 = .ok (.ifnull 21, 3) := by decide +kernel
theorem dX4_isFreshAnew_10 : decode cX4_isFreshAnew 10 = .ok (.aload_n 0, 1) := by decide +kernel
theorem dX4_isFreshAnew_11 : decode cX4_isFreshAnew 11 = .ok (.aload_n 2, 1) := by decide +kernel
theorem dX4_isFreshAnew_12 : decode cX4_isFreshAnew 12 = .ok (.invokevirtual 135, 3) := by decide +kernel
theorem dX4_isFreshAnew_15 : decode cX4_isFreshAnew 15 = .ok (.ifCond .ne 5, 3) := by decide +kernel
theorem dX4_isFreshAnew_18 : decode cX4_isFreshAnew 18 = .ok (.iconst 0, 1) := by decide +kernel
theorem dX4_isFreshAnew_19 : decode cX4_isFreshAnew 19 = .ok (.ireturn, 1) := by decide +kernel
theorem dX4_isFreshAnew_20 : decode cX4_isFreshAnew 20 = .ok (.aload_n 2, 1) := by decide +kernel
theorem dX4_isFreshAnew_21 : decode cX4_isFreshAnew 21 = .ok (.getfield 99, 3) := by decide +kernel
theorem dX4_isFreshAnew_24 : decode cX4_isFreshAnew 24 = .ok (.astore_n 2, 1) := by decide +kernel
theorem dX4_isFreshAnew_25 : decode cX4_isFreshAnew 25 = .ok (.goto (-19), 3) := by decide +kernel
theorem dX4_isFreshAnew_28 : decode cX4_isFreshAnew 28 = .ok (.iconst 1, 1) := by decide +kernel
theorem dX4_isFreshAnew_29 : decode cX4_isFreshAnew 29 = .ok (.ireturn, 1) := by decide +kernel
theorem dX4_layers_0 : decode cX4_layers 0 = .ok (.aload_n 0, 1) := by decide +kernel
theorem dX4_layers_1 : decode cX4_layers 1 = .ok (.getfield 12, 3) := by decide +kernel
theorem dX4_layers_4 : decode cX4_layers 4 = .ok (.getfield 138, 3) := by decide +kernel
theorem dX4_layers_7 : decode cX4_layers 7 = .ok (.ireturn, 1) := by decide +kernel
theorem dX4_bakes_0 : decode cX4_bakes 0 = .ok (.aload_n 0, 1) := by decide +kernel
theorem dX4_bakes_1 : decode cX4_bakes 1 = .ok (.getfield 113, 3) := by decide +kernel
theorem dX4_bakes_4 : decode cX4_bakes 4 = .ok (.ireturn, 1) := by decide +kernel
theorem dX4_latest_0 : decode cX4_latest 0 = .ok (.aload_n 0, 1) := by decide +kernel
theorem dX4_latest_1 : decode cX4_latest 1 = .ok (.iload_n 1, 1) := by decide +kernel
theorem dX4_latest_2 : decode cX4_latest 2 = .ok (.invokevirtual 63, 3) := by decide +kernel
theorem dX4_latest_5 : decode cX4_latest 5 = .ok (.getfield 103, 3) := by decide +kernel
theorem dX4_latest_8 : decode cX4_latest 8 = .ok (.invokestatic 122, 3) := by decide +kernel
theorem dX4_latest_11 : decode cX4_latest 11 = .ok (.ireturn, 1) := by decide +kernel
theorem dX4_top_0 : decode cX4_top 0 = .ok (.aload_n 0, 1) := by decide +kernel
theorem dX4_top_1 : decode cX4_top 1 = .ok (.iload_n 1, 1) := by decide +kernel
theorem dX4_top_2 : decode cX4_top 2 = .ok (.invokevirtual 141, 3) := by decide +kernel
theorem dX4_top_5 : decode cX4_top 5 = .ok (.getfield 145, 3) := by decide +kernel
theorem dX4_top_8 : decode cX4_top 8 = .ok (.ireturn, 1) := by decide +kernel
theorem dX4_test_0 : decode cX4_test 0 = .ok (.aload_n 0, 1) := by decide +kernel
theorem dX4_test_1 : decode cX4_test 1 = .ok (.iload_n 1, 1) := by decide +kernel
theorem dX4_test_2 : decode cX4_test 2 = .ok (.invokevirtual 141, 3) := by decide +kernel
theorem dX4_test_5 : decode cX4_test 5 = .ok (.astore_n 3, 1) := by decide +kernel
theorem dX4_test_6 : decode cX4_test 6 = .ok (.aload_n 3, 1) := by decide +kernel
theorem dX4_test_7 : decode cX4_test 7 = .ok (.getfield 148, 3) := by decide +kernel
theorem dX4_test_10 : decode cX4_test 10 = .ok (.ifCond .eq 13, 3) := by decide +kernel
theorem dX4_test_13 : decode cX4_test 13 = .ok (.new 70, 3) := by decide +kernel
theorem dX4_test_16 : decode cX4_test 16 = .ok (.dup, 1) := by decide +kernel
theorem dX4_test_17 : decode cX4_test 17 = .ok (.ldc 152, 2) := by decide +kernel
theorem dX4_test_19 : decode cX4_test 19 = .ok (.invokespecial 74, 3) := by decide +kernel
theorem dX4_test_22 : decode cX4_test 22 = .ok (.athrow, 1) := by decide +kernel
theorem dX4_test_23 : decode cX4_test 23 = .ok (.iload_n 2, 1) := by decide +kernel
theorem dX4_test_24 : decode cX4_test 24 = .ok (.ifCond .eq 11, 3) := by decide +kernel
theorem dX4_test_27 : decode cX4_test 27 = .ok (.aload_n 3, 1) := by decide +kernel
theorem dX4_test_28 : decode cX4_test 28 = .ok (.iconst 1, 1) := by decide +kernel
theorem dX4_test_29 : decode cX4_test 29 = .ok (.putfield 154, 3) := by decide +kernel
theorem dX4_test_32 : decode cX4_test 32 = .ok (.goto 8, 3) := by decide +kernel
theorem dX4_test_35 : decode cX4_test 35 = .ok (.aload_n 3, 1) := by decide +kernel
theorem dX4_test_36 : decode cX4_test 36 = .ok (.iconst 1, 1) := by decide +kernel
theorem dX4_test_37 : decode cX4_test 37 = .ok (.putfield 157, 3) := by decide +kernel
theorem dX4_test_40 : decode cX4_test 40 = .ok (.aload_n 3, 1) := by decide +kernel
theorem dX4_test_41 : decode cX4_test 41 = .ok (.getfield 157, 3) := by decide +kernel
theorem dX4_test_44 : decode cX4_test 44 = .ok (.ireturn, 1) := by decide +kernel
theorem dX4_hold_0 : decode cX4_hold 0 = .ok (.aload_n 0, 1) := by decide +kernel
theorem dX4_hold_1 : decode cX4_hold 1 = .ok (.iload_n 1, 1) := by decide +kernel
theorem dX4_hold_2 : decode cX4_hold 2 = .ok (.invokevirtual 141, 3) := by decide +kernel
theorem dX4_hold_5 : decode cX4_hold 5 = .ok (.astore_n 2, 1) := by decide +kernel
theorem dX4_hold_6 : decode cX4_hold 6 = .ok (.aload_n 2, 1) := by decide +kernel
theorem dX4_hold_7 : decode cX4_hold 7 = .ok (.getfield 148, 3) := by decide +kernel
theorem dX4_hold_10 : decode cX4_hold 10 = .ok (.ifCond .ne 10, 3) := by decide +kernel
theorem dX4_hold_13 : decode cX4_hold 13 = .ok (.aload_n 2, 1) := by decide +kernel
theorem dX4_hold_14 : decode cX4_hold 14 = .ok (.getfield 157, 3) := by decide +kernel
theorem dX4_hold_17 : decode cX4_hold 17 = .ok (.ifCond .eq 13, 3) := by decide +kernel
theorem dX4_hold_20 : decode cX4_hold 20 = .ok (.new 70, 3) := by decide +kernel
theorem dX4_hold_23 : decode cX4_hold 23 = .ok (.dup, 1) := by decide +kernel
theorem dX4_hold_24 : decode cX4_hold 24 = .ok (.ldc 160, 2) := by decide +kernel
theorem dX4_hold_26 : decode cX4_hold 26 = .ok (.invokespecial 74, 3) := by decide +kernel
theorem dX4_hold_29 : decode cX4_hold 29 = .ok (.athrow, 1) := by decide +kernel
theorem dX4_hold_30 : decode cX4_hold 30 = .ok (.aload_n 2, 1) := by decide +kernel
theorem dX4_hold_31 : decode cX4_hold 31 = .ok (.iconst 1, 1) := by decide +kernel
theorem dX4_hold_32 : decode cX4_hold 32 = .ok (.putfield 157, 3) := by decide +kernel
theorem dX4_hold_35 : decode cX4_hold 35 = .ok (.aload_n 0, 1) := by decide +kernel
theorem dX4_hold_36 : decode cX4_hold 36 = .ok (.aload_n 2, 1) := by decide +kernel
theorem dX4_hold_37 : decode cX4_hold 37 = .ok (.invokevirtual 162, 3) := by decide +kernel
theorem dX4_hold_40 : decode cX4_hold 40 = .ok (.ireturn, 1) := by decide +kernel
theorem dX4_raise_0 : decode cX4_raise 0 = .ok (.aload_n 0, 1) := by decide +kernel
theorem dX4_raise_1 : decode cX4_raise 1 = .ok (.iload_n 1, 1) := by decide +kernel
theorem dX4_raise_2 : decode cX4_raise 2 = .ok (.invokevirtual 141, 3) := by decide +kernel
theorem dX4_raise_5 : decode cX4_raise 5 = .ok (.astore_n 2, 1) := by decide +kernel
theorem dX4_raise_6 : decode cX4_raise 6 = .ok (.aload_n 2, 1) := by decide +kernel
theorem dX4_raise_7 : decode cX4_raise 7 = .ok (.getfield 148, 3) := by decide +kernel
theorem dX4_raise_10 : decode cX4_raise 10 = .ok (.ifCond .ne 25, 3) := by decide +kernel
theorem dX4_raise_13 : decode cX4_raise 13 = .ok (.aload_n 2, 1) := by decide +kernel
theorem dX4_raise_14 : decode cX4_raise 14 = .ok (.getfield 157, 3) := by decide +kernel
theorem dX4_raise_17 : decode cX4_raise 17 = .ok (.ifCond .ne 18, 3) := by decide +kernel
theorem dX4_raise_20 : decode cX4_raise 20 = .ok (.aload_n 2, 1) := by decide +kernel
theorem dX4_raise_21 : decode cX4_raise 21 = .ok (.getfield 165, 3) := by decide +kernel
theorem dX4_raise_24 : decode cX4_raise 24 = .ok (.iconst 2, 1) := by decide +kernel
theorem dX4_raise_25 : decode cX4_raise 25 = .ok (.if_icmp .ge 10, 3) := by decide +kernel
theorem dX4_raise_28 : decode cX4_raise 28 = .ok (.aload_n 2, 1) := by decide +kernel
theorem dX4_raise_29 : decode cX4_raise 29 = .ok (.getfield 154, 3) := by decide +kernel
theorem dX4_raise_32 : decode cX4_raise 32 = .ok (.ifCond .ne 13, 3) := by decide +kernel
theorem dX4_raise_35 : decode cX4_raise 35 = .ok (.new 70, 3) := by decide +kernel
theorem dX4_raise_38 : decode cX4_raise 38 = .ok (.dup, 1) := by decide +kernel
theorem dX4_raise_39 : decode cX4_raise 39 = .ok (.ldc 168, 2) := by decide +kernel
theorem dX4_raise_41 : decode cX4_raise 41 = .ok (.invokespecial 74, 3) := by decide +kernel
theorem dX4_raise_44 : decode cX4_raise 44 = .ok (.athrow, 1) := by decide +kernel
theorem dX4_raise_45 : decode cX4_raise 45 = .ok (.aload_n 2, 1) := by decide +kernel
theorem dX4_raise_46 : decode cX4_raise 46 = .ok (.dup, 1) := by decide +kernel
theorem dX4_raise_47 : decode cX4_raise 47 = .ok (.getfield 165, 3) := by decide +kernel
theorem dX4_raise_50 : decode cX4_raise 50 = .ok (.iconst 1, 1) := by decide +kernel
theorem dX4_raise_51 : decode cX4_raise 51 = .ok (.iadd, 1) := by decide +kernel
theorem dX4_raise_52 : decode cX4_raise 52 = .ok (.putfield 165, 3) := by decide +kernel
theorem dX4_raise_55 : decode cX4_raise 55 = .ok (.aload_n 2, 1) := by decide +kernel
theorem dX4_raise_56 : decode cX4_raise 56 = .ok (.iconst 0, 1) := by decide +kernel
theorem dX4_raise_57 : decode cX4_raise 57 = .ok (.putfield 154, 3) := by decide +kernel
theorem dX4_raise_60 : decode cX4_raise 60 = .ok (.aload_n 2, 1) := by decide +kernel
theorem dX4_raise_61 : decode cX4_raise 61 = .ok (.getfield 165, 3) := by decide +kernel
theorem dX4_raise_64 : decode cX4_raise 64 = .ok (.ireturn, 1) := by decide +kernel
theorem dX4_copy_0 : decode cX4_copy 0 = .ok (.aload_n 0, 1) := by decide +kernel
theorem dX4_copy_1 : decode cX4_copy 1 = .ok (.iload_n 1, 1) := by decide +kernel
theorem dX4_copy_2 : decode cX4_copy 2 = .ok (.invokevirtual 141, 3) := by decide +kernel
theorem dX4_copy_5 : decode cX4_copy 5 = .ok (.astore_n 3, 1) := by decide +kernel
theorem dX4_copy_6 : decode cX4_copy 6 = .ok (.iload_n 2, 1) := by decide +kernel
theorem dX4_copy_7 : decode cX4_copy 7 = .ok (.ifCond .lt 8, 3) := by decide +kernel
theorem dX4_copy_10 : decode cX4_copy 10 = .ok (.iload_n 2, 1) := by decide +kernel
theorem dX4_copy_11 : decode cX4_copy 11 = .ok (.iconst 3, 1) := by decide +kernel
theorem dX4_copy_12 : decode cX4_copy 12 = .ok (.if_icmp .lt 13, 3) := by decide +kernel
theorem dX4_copy_15 : decode cX4_copy 15 = .ok (.new 83, 3) := by decide +kernel
theorem dX4_copy_18 : decode cX4_copy 18 = .ok (.dup, 1) := by decide +kernel
theorem dX4_copy_19 : decode cX4_copy 19 = .ok (.ldc 170, 2) := by decide +kernel
theorem dX4_copy_21 : decode cX4_copy 21 = .ok (.invokespecial 87, 3) := by decide +kernel
theorem dX4_copy_24 : decode cX4_copy 24 = .ok (.athrow, 1) := by decide +kernel
theorem dX4_copy_25 : decode cX4_copy 25 = .ok (.aload_n 3, 1) := by decide +kernel
theorem dX4_copy_26 : decode cX4_copy 26 = .ok (.getfield 148, 3) := by decide +kernel
theorem dX4_copy_29 : decode cX4_copy 29 = .ok (.ifCond .ne 12, 3) := by decide +kernel
theorem dX4_copy_32 : decode cX4_copy 32 = .ok (.aload_n 3, 1) := by decide +kernel
theorem dX4_copy_33 : decode cX4_copy 33 = .ok (.iload_n 2, 1) := by decide +kernel
theorem dX4_copy_34 : decode cX4_copy 34 = .ok (.invokevirtual 172, 3) := by decide +kernel
theorem dX4_copy_37 : decode cX4_copy 37 = .ok (.iconst (-1), 1) := by decide +kernel
theorem dX4_copy_38 : decode cX4_copy 38 = .ok (.if_icmp .eq 13, 3) := by decide +kernel
theorem dX4_copy_41 : decode cX4_copy 41 = .ok (.new 70, 3) := by decide +kernel
theorem dX4_copy_44 : decode cX4_copy 44 = .ok (.dup, 1) := by decide +kernel
theorem dX4_copy_45 : decode cX4_copy 45 = .ok (.ldc 176, 2) := by decide +kernel
theorem dX4_copy_47 : decode cX4_copy 47 = .ok (.invokespecial 74, 3) := by decide +kernel
theorem dX4_copy_50 : decode cX4_copy 50 = .ok (.athrow, 1) := by decide +kernel
theorem dX4_copy_51 : decode cX4_copy 51 = .ok (.aload_n 3, 1) := by decide +kernel
theorem dX4_copy_52 : decode cX4_copy 52 = .ok (.iload_n 2, 1) := by decide +kernel
theorem dX4_copy_53 : decode cX4_copy 53 = .ok (.aload_n 0, 1) := by decide +kernel
theorem dX4_copy_54 : decode cX4_copy 54 = .ok (.getfield 178, 3) := by decide +kernel
theorem dX4_copy_57 : decode cX4_copy 57 = .ok (.aload_n 0, 1) := by decide +kernel
theorem dX4_copy_58 : decode cX4_copy 58 = .ok (.getfield 41, 3) := by decide +kernel
theorem dX4_copy_61 : decode cX4_copy 61 = .ok (.iload_n 2, 1) := by decide +kernel
theorem dX4_copy_62 : decode cX4_copy 62 = .ok (.invokestatic 181, 3) := by decide +kernel
theorem dX4_copy_65 : decode cX4_copy 65 = .ok (.iadd, 1) := by decide +kernel
theorem dX4_copy_66 : decode cX4_copy 66 = .ok (.invokevirtual 185, 3) := by decide +kernel
theorem dX4_copy_69 : decode cX4_copy 69 = .ok (.aload_n 3, 1) := by decide +kernel
theorem dX4_copy_70 : decode cX4_copy 70 = .ok (.iload_n 2, 1) := by decide +kernel
theorem dX4_copy_71 : decode cX4_copy 71 = .ok (.invokevirtual 172, 3) := by decide +kernel
theorem dX4_copy_74 : decode cX4_copy 74 = .ok (.ireturn, 1) := by decide +kernel
theorem dX4_setRules_0 : decode cX4_setRules 0 = .ok (.iload_n 1, 1) := by decide +kernel
theorem dX4_setRules_1 : decode cX4_setRules 1 = .ok (.ifCond .lt 12, 3) := by decide +kernel
theorem dX4_setRules_4 : decode cX4_setRules 4 = .ok (.iload_n 1, 1) := by decide +kernel
theorem dX4_setRules_5 : decode cX4_setRules 5 = .ok (.aload_n 0, 1) := by decide +kernel
theorem dX4_setRules_6 : decode cX4_setRules 6 = .ok (.getfield 41, 3) := by decide +kernel
theorem dX4_setRules_9 : decode cX4_setRules 9 = .ok (.arraylength, 1) := by decide +kernel
theorem dX4_setRules_10 : decode cX4_setRules 10 = .ok (.if_icmp .lt 13, 3) := by decide +kernel
theorem dX4_setRules_13 : decode cX4_setRules 13 = .ok (.new 83, 3) := by decide +kernel
theorem dX4_setRules_16 : decode cX4_setRules 16 = .ok (.dup, 1) := by decide +kernel
theorem dX4_setRules_17 : decode cX4_setRules 17 = .ok (.ldc 170, 2) := by decide +kernel
theorem dX4_setRules_19 : decode cX4_setRules 19 = .ok (.invokespecial 87, 3) := by decide +kernel
theorem dX4_setRules_22 : decode cX4_setRules 22 = .ok (.athrow, 1) := by decide +kernel
theorem dX4_setRules_23 : decode cX4_setRules 23 = .ok (.iload_n 2, 1) := by decide +kernel
theorem dX4_setRules_24 : decode cX4_setRules 24 = .ok (.ifCond .lt 9, 3) := by decide +kernel
theorem dX4_setRules_27 : decode cX4_setRules 27 = .ok (.iload_n 2, 1) := by decide +kernel
theorem dX4_setRules_28 : decode cX4_setRules 28 = .ok (.bipush 9, 2) := by decide +kernel
theorem dX4_setRules_30 : decode cX4_setRules 30 = .ok (.if_icmp .le 13, 3) := by decide +kernel
theorem dX4_setRules_33 : decode cX4_setRules 33 = .ok (.new 83, 3) := by decide +kernel
theorem dX4_setRules_36 : decode cX4_setRules 36 = .ok (.dup, 1) := by decide +kernel
theorem dX4_setRules_37 : decode cX4_setRules 37 = .ok (.ldc 189, 2) := by decide +kernel
theorem dX4_setRules_39 : decode cX4_setRules 39 = .ok (.invokespecial 87, 3) := by decide +kernel
theorem dX4_setRules_42 : decode cX4_setRules 42 = .ok (.athrow, 1) := by decide +kernel
theorem dX4_setRules_43 : decode cX4_setRules 43 = .ok (.iload_n 3, 1) := by decide +kernel
theorem dX4_setRules_44 : decode cX4_setRules 44 = .ok (.ifCond .lt 21, 3) := by decide +kernel
theorem dX4_setRules_47 : decode cX4_setRules 47 = .ok (.iload_n 3, 1) := by decide +kernel
theorem dX4_setRules_48 : decode cX4_setRules 48 = .ok (.bipush 99, 2) := by decide +kernel
theorem dX4_setRules_50 : decode cX4_setRules 50 = .ok (.if_icmp .gt 15, 3) := by decide +kernel
theorem dX4_setRules_53 : decode cX4_setRules 53 = .ok (.iload 4, 2) := by decide +kernel
theorem dX4_setRules_55 : decode cX4_setRules 55 = .ok (.ifCond .lt 10, 3) := by decide +kernel
theorem dX4_setRules_58 : decode cX4_setRules 58 = .ok (.iload 4, 2) := by decide +kernel
theorem dX4_setRules_60 : decode cX4_setRules 60 = .ok (.bipush 99, 2) := by decide +kernel
theorem dX4_setRules_62 : decode cX4_setRules 62 = .ok (.if_icmp .le 13, 3) := by decide +kernel
theorem dX4_setRules_65 : decode cX4_setRules 65 = .ok (.new 83, 3) := by decide +kernel
theorem dX4_setRules_68 : decode cX4_setRules 68 = .ok (.dup, 1) := by decide +kernel
theorem dX4_setRules_69 : decode cX4_setRules 69 = .ok (.ldc 191, 2) := by decide +kernel
theorem dX4_setRules_71 : decode cX4_setRules 71 = .ok (.invokespecial 87, 3) := by decide +kernel
theorem dX4_setRules_74 : decode cX4_setRules 74 = .ok (.athrow, 1) := by decide +kernel
theorem dX4_setRules_75 : decode cX4_setRules 75 = .ok (.aload_n 0, 1) := by decide +kernel
theorem dX4_setRules_76 : decode cX4_setRules 76 = .ok (.getfield 41, 3) := by decide +kernel
theorem dX4_setRules_79 : decode cX4_setRules 79 = .ok (.iload_n 1, 1) := by decide +kernel
theorem dX4_setRules_80 : decode cX4_setRules 80 = .ok (.iload_n 2, 1) := by decide +kernel
theorem dX4_setRules_81 : decode cX4_setRules 81 = .ok (.iastore, 1) := by decide +kernel
theorem dX4_setRules_82 : decode cX4_setRules 82 = .ok (.aload_n 0, 1) := by decide +kernel
theorem dX4_setRules_83 : decode cX4_setRules 83 = .ok (.iload_n 3, 1) := by decide +kernel
theorem dX4_setRules_84 : decode cX4_setRules 84 = .ok (.putfield 56, 3) := by decide +kernel
theorem dX4_setRules_87 : decode cX4_setRules 87 = .ok (.aload_n 0, 1) := by decide +kernel
theorem dX4_setRules_88 : decode cX4_setRules 88 = .ok (.iload 4, 2) := by decide +kernel
theorem dX4_setRules_90 : decode cX4_setRules 90 = .ok (.putfield 60, 3) := by decide +kernel
theorem dX4_setRules_93 : decode cX4_setRules 93 = .ok (.return_, 1) := by decide +kernel
theorem dX4_pass_0 : decode cX4_pass 0 = .ok (.iload_n 1, 1) := by decide +kernel
theorem dX4_pass_1 : decode cX4_pass 1 = .ok (.iconst 1, 1) := by decide +kernel
theorem dX4_pass_2 : decode cX4_pass 2 = .ok (.if_icmp .lt 9, 3) := by decide +kernel
theorem dX4_pass_5 : decode cX4_pass 5 = .ok (.iload_n 1, 1) := by decide +kernel
theorem dX4_pass_6 : decode cX4_pass 6 = .ok (.bipush 30, 2) := by decide +kernel
theorem dX4_pass_8 : decode cX4_pass 8 = .ok (.if_icmp .le 13, 3) := by decide +kernel
theorem dX4_pass_11 : decode cX4_pass 11 = .ok (.new 83, 3) := by decide +kernel
theorem dX4_pass_14 : decode cX4_pass 14 = .ok (.dup, 1) := by decide +kernel
theorem dX4_pass_15 : decode cX4_pass 15 = .ok (.ldc 193, 2) := by decide +kernel
theorem dX4_pass_17 : decode cX4_pass 17 = .ok (.invokespecial 87, 3) := by decide +kernel
theorem dX4_pass_20 : decode cX4_pass 20 = .ok (.athrow, 1) := by decide +kernel
theorem dX4_pass_21 : decode cX4_pass 21 = .ok (.aload_n 0, 1) := by decide +kernel
theorem dX4_pass_22 : decode cX4_pass 22 = .ok (.dup, 1) := by decide +kernel
theorem dX4_pass_23 : decode cX4_pass 23 = .ok (.getfield 178, 3) := by decide +kernel
theorem dX4_pass_26 : decode cX4_pass 26 = .ok (.iload_n 1, 1) := by decide +kernel
theorem dX4_pass_27 : decode cX4_pass 27 = .ok (.iadd, 1) := by decide +kernel
theorem dX4_pass_28 : decode cX4_pass 28 = .ok (.putfield 178, 3) := by decide +kernel
theorem dX4_pass_31 : decode cX4_pass 31 = .ok (.iconst 0, 1) := by decide +kernel
theorem dX4_pass_32 : decode cX4_pass 32 = .ok (.istore_n 2, 1) := by decide +kernel
theorem dX4_pass_33 : decode cX4_pass 33 = .ok (.aload_n 0, 1) := by decide +kernel
theorem dX4_pass_34 : decode cX4_pass 34 = .ok (.getfield 31, 3) := by decide +kernel
theorem dX4_pass_37 : decode cX4_pass 37 = .ok (.astore_n 3, 1) := by decide +kernel
theorem dX4_pass_38 : decode cX4_pass 38 = .ok (.aload_n 3, 1) := by decide +kernel
theorem dX4_pass_39 : decode cX4_pass 39 = .ok (.arraylength, 1) := by decide +kernel
theorem dX4_pass_40 : decode cX4_pass 40 = .ok (.istore 4, 2) := by decide +kernel
theorem dX4_pass_42 : decode cX4_pass 42 = .ok (.iconst 0, 1) := by decide +kernel
theorem dX4_pass_43 : decode cX4_pass 43 = .ok (.istore 5, 2) := by decide +kernel
theorem dX4_pass_45 : decode cX4_pass 45 = .ok (.iload 5, 2) := by decide +kernel
theorem dX4_pass_47 : decode cX4_pass 47 = .ok (.iload 4, 2) := by decide +kernel
theorem dX4_pass_49 : decode cX4_pass 49 = .ok (.if_icmp .ge 38, 3) := by decide +kernel
theorem dX4_pass_52 : decode cX4_pass 52 = .ok (.aload_n 3, 1) := by decide +kernel
theorem dX4_pass_53 : decode cX4_pass 53 = .ok (.iload 5, 2) := by decide +kernel
theorem dX4_pass_55 : decode cX4_pass 55 = .ok (.aaload, 1) := by decide +kernel
theorem dX4_pass_56 : decode cX4_pass 56 = .ok (.astore 6, 2) := by decide +kernel
theorem dX4_pass_58 : decode cX4_pass 58 = .ok (.aload 6, 2) := by decide +kernel
theorem dX4_pass_60 : decode cX4_pass 60 = .ok (.ifnull 21, 3) := by decide +kernel
theorem dX4_pass_63 : decode cX4_pass 63 = .ok (.aload_n 0, 1) := by decide +kernel
theorem dX4_pass_64 : decode cX4_pass 64 = .ok (.aload 6, 2) := by decide +kernel
theorem dX4_pass_66 : decode cX4_pass 66 = .ok (.invokevirtual 195, 3) := by decide +kernel
theorem dX4_pass_69 : decode cX4_pass 69 = .ok (.ifCond .eq 12, 3) := by decide +kernel
theorem dX4_pass_72 : decode cX4_pass 72 = .ok (.aload 6, 2) := by decide +kernel
theorem dX4_pass_74 : decode cX4_pass 74 = .ok (.iconst 1, 1) := by decide +kernel
theorem dX4_pass_75 : decode cX4_pass 75 = .ok (.putfield 148, 3) := by decide +kernel
theorem dX4_pass_78 : decode cX4_pass 78 = .ok (.iinc 2 1, 3) := by decide +kernel
theorem dX4_pass_81 : decode cX4_pass 81 = .ok (.iinc 5 1, 3) := by decide +kernel
theorem dX4_pass_84 : decode cX4_pass 84 = .ok (.goto (-39), 3) := by decide +kernel
theorem dX4_pass_87 : decode cX4_pass 87 = .ok (.iload_n 2, 1) := by decide +kernel
theorem dX4_pass_88 : decode cX4_pass 88 = .ok (.ireturn, 1) := by decide +kernel
theorem dX4_state_0 : decode cX4_state 0 = .ok (.aload_n 0, 1) := by decide +kernel
theorem dX4_state_1 : decode cX4_state 1 = .ok (.iload_n 1, 1) := by decide +kernel
theorem dX4_state_2 : decode cX4_state 2 = .ok (.invokevirtual 141, 3) := by decide +kernel
theorem dX4_state_5 : decode cX4_state 5 = .ok (.astore_n 2, 1) := by decide +kernel
theorem dX4_state_6 : decode cX4_state 6 = .ok (.aload_n 2, 1) := by decide +kernel
theorem dX4_state_7 : decode cX4_state 7 = .ok (.getfield 165, 3) := by decide +kernel
theorem dX4_state_10 : decode cX4_state 10 = .ok (.istore_n 3, 1) := by decide +kernel
theorem dX4_state_11 : decode cX4_state 11 = .ok (.aload_n 2, 1) := by decide +kernel
theorem dX4_state_12 : decode cX4_state 12 = .ok (.getfield 157, 3) := by decide +kernel
theorem dX4_state_15 : decode cX4_state 15 = .ok (.ifCond .eq 6, 3) := by decide +kernel
theorem dX4_state_18 : decode cX4_state 18 = .ok (.iinc 3 10, 3) := by decide +kernel
theorem dX4_state_21 : decode cX4_state 21 = .ok (.aload_n 0, 1) := by decide +kernel
theorem dX4_state_22 : decode cX4_state 22 = .ok (.aload_n 2, 1) := by decide +kernel
theorem dX4_state_23 : decode cX4_state 23 = .ok (.invokevirtual 199, 3) := by decide +kernel
theorem dX4_state_26 : decode cX4_state 26 = .ok (.ifCond .eq 6, 3) := by decide +kernel
theorem dX4_state_29 : decode cX4_state 29 = .ok (.iinc 3 20, 3) := by decide +kernel
theorem dX4_state_32 : decode cX4_state 32 = .ok (.aload_n 2, 1) := by decide +kernel
theorem dX4_state_33 : decode cX4_state 33 = .ok (.getfield 148, 3) := by decide +kernel
theorem dX4_state_36 : decode cX4_state 36 = .ok (.ifCond .eq 6, 3) := by decide +kernel
theorem dX4_state_39 : decode cX4_state 39 = .ok (.iinc 3 40, 3) := by decide +kernel
theorem dX4_state_42 : decode cX4_state 42 = .ok (.iload_n 3, 1) := by decide +kernel
theorem dX4_state_43 : decode cX4_state 43 = .ok (.ireturn, 1) := by decide +kernel
theorem dX4_start_0 : decode cX4_start 0 = .ok (.aload_n 0, 1) := by decide +kernel
theorem dX4_start_1 : decode cX4_start 1 = .ok (.iload_n 1, 1) := by decide +kernel
theorem dX4_start_2 : decode cX4_start 2 = .ok (.invokevirtual 63, 3) := by decide +kernel
theorem dX4_start_5 : decode cX4_start 5 = .ok (.astore 4, 2) := by decide +kernel
theorem dX4_start_7 : decode cX4_start 7 = .ok (.iload_n 2, 1) := by decide +kernel
theorem dX4_start_8 : decode cX4_start 8 = .ok (.ifCond .lt 17, 3) := by decide +kernel
theorem dX4_start_11 : decode cX4_start 11 = .ok (.iload_n 2, 1) := by decide +kernel
theorem dX4_start_12 : decode cX4_start 12 = .ok (.iconst 3, 1) := by decide +kernel
theorem dX4_start_13 : decode cX4_start 13 = .ok (.if_icmp .ge 12, 3) := by decide +kernel
theorem dX4_start_16 : decode cX4_start 16 = .ok (.iload_n 3, 1) := by decide +kernel
theorem dX4_start_17 : decode cX4_start 17 = .ok (.ifCond .lt 8, 3) := by decide +kernel
theorem dX4_start_20 : decode cX4_start 20 = .ok (.iload_n 3, 1) := by decide +kernel
theorem dX4_start_21 : decode cX4_start 21 = .ok (.iconst 2, 1) := by decide +kernel
theorem dX4_start_22 : decode cX4_start 22 = .ok (.if_icmp .le 13, 3) := by decide +kernel
theorem dX4_start_25 : decode cX4_start 25 = .ok (.new 83, 3) := by decide +kernel
theorem dX4_start_28 : decode cX4_start 28 = .ok (.dup, 1) := by decide +kernel
theorem dX4_start_29 : decode cX4_start 29 = .ok (.ldc 202, 2) := by decide +kernel
theorem dX4_start_31 : decode cX4_start 31 = .ok (.invokespecial 87, 3) := by decide +kernel
theorem dX4_start_34 : decode cX4_start 34 = .ok (.athrow, 1) := by decide +kernel
theorem dX4_start_35 : decode cX4_start 35 = .ok (.aload_n 0, 1) := by decide +kernel
theorem dX4_start_36 : decode cX4_start 36 = .ok (.aload 4, 2) := by decide +kernel
theorem dX4_start_38 : decode cX4_start 38 = .ok (.iload_n 2, 1) := by decide +kernel
theorem dX4_start_39 : decode cX4_start 39 = .ok (.iload_n 3, 1) := by decide +kernel
theorem dX4_start_40 : decode cX4_start 40 = .ok (.invokevirtual 204, 3) := by decide +kernel
theorem dX4_start_43 : decode cX4_start 43 = .ok (.astore 5, 2) := by decide +kernel
theorem dX4_start_45 : decode cX4_start 45 = .ok (.aload 5, 2) := by decide +kernel
theorem dX4_start_47 : decode cX4_start 47 = .ok (.ifnull 22, 3) := by decide +kernel
theorem dX4_start_50 : decode cX4_start 50 = .ok (.aload_n 0, 1) := by decide +kernel
theorem dX4_start_51 : decode cX4_start 51 = .ok (.getfield 208, 3) := by decide +kernel
theorem dX4_start_54 : decode cX4_start 54 = .ok (.ifCond .lt 15, 3) := by decide +kernel
theorem dX4_start_57 : decode cX4_start 57 = .ok (.aload_n 0, 1) := by decide +kernel
theorem dX4_start_58 : decode cX4_start 58 = .ok (.getfield 208, 3) := by decide +kernel
theorem dX4_start_61 : decode cX4_start 61 = .ok (.aload_n 0, 1) := by decide +kernel
theorem dX4_start_62 : decode cX4_start 62 = .ok (.getfield 37, 3) := by decide +kernel
theorem dX4_start_65 : decode cX4_start 65 = .ok (.arraylength, 1) := by decide +kernel
theorem dX4_start_66 : decode cX4_start 66 = .ok (.if_icmp .lt 13, 3) := by decide +kernel
theorem dX4_start_69 : decode cX4_start 69 = .ok (.new 70, 3) := by decide +kernel
theorem dX4_start_72 : decode cX4_start 72 = .ok (.dup, 1) := by decide +kernel
theorem dX4_start_73 : decode cX4_start 73 = .ok (.ldc 211, 2) := by decide +kernel
theorem dX4_start_75 : decode cX4_start 75 = .ok (.invokespecial 74, 3) := by decide +kernel
theorem dX4_start_78 : decode cX4_start 78 = .ok (.athrow, 1) := by decide +kernel
theorem dX4_start_79 : decode cX4_start 79 = .ok (.new 35, 3) := by decide +kernel
theorem dX4_start_82 : decode cX4_start 82 = .ok (.dup, 1) := by decide +kernel
theorem dX4_start_83 : decode cX4_start 83 = .ok (.aload_n 0, 1) := by decide +kernel
theorem dX4_start_84 : decode cX4_start 84 = .ok (.getfield 208, 3) := by decide +kernel
theorem dX4_start_87 : decode cX4_start 87 = .ok (.aload 4, 2) := by decide +kernel
theorem dX4_start_89 : decode cX4_start 89 = .ok (.iload_n 2, 1) := by decide +kernel
theorem dX4_start_90 : decode cX4_start 90 = .ok (.iload_n 3, 1) := by decide +kernel
theorem dX4_start_91 : decode cX4_start 91 = .ok (.aload 5, 2) := by decide +kernel
theorem dX4_start_93 : decode cX4_start 93 = .ok (.invokespecial 213, 3) := by decide +kernel
theorem dX4_start_96 : decode cX4_start 96 = .ok (.astore 6, 2) := by decide +kernel
theorem dX4_start_98 : decode cX4_start 98 = .ok (.aload_n 0, 1) := by decide +kernel
theorem dX4_start_99 : decode cX4_start 99 = .ok (.getfield 37, 3) := by decide +kernel
theorem dX4_start_102 : decode cX4_start 102 = .ok (.aload_n 0, 1) := by decide +kernel
theorem dX4_start_103 : decode cX4_start 103 = .ok (.getfield 208, 3) := by decide +kernel
theorem dX4_start_106 : decode cX4_start 106 = .ok (.aload 6, 2) := by decide +kernel
theorem dX4_start_108 : decode cX4_start 108 = .ok (.aastore, 1) := by decide +kernel
theorem dX4_start_109 : decode cX4_start 109 = .ok (.aload_n 0, 1) := by decide +kernel
theorem dX4_start_110 : decode cX4_start 110 = .ok (.dup, 1) := by decide +kernel
theorem dX4_start_111 : decode cX4_start 111 = .ok (.getfield 208, 3) := by decide +kernel
theorem dX4_start_114 : decode cX4_start 114 = .ok (.iconst 1, 1) := by decide +kernel
theorem dX4_start_115 : decode cX4_start 115 = .ok (.iadd, 1) := by decide +kernel
theorem dX4_start_116 : decode cX4_start 116 = .ok (.putfield 208, 3) := by decide +kernel
theorem dX4_start_119 : decode cX4_start 119 = .ok (.aload 6, 2) := by decide +kernel
theorem dX4_start_121 : decode cX4_start 121 = .ok (.getfield 216, 3) := by decide +kernel
theorem dX4_start_124 : decode cX4_start 124 = .ok (.ireturn, 1) := by decide +kernel
theorem dX4_renew_0 : decode cX4_renew 0 = .ok (.aload_n 0, 1) := by decide +kernel
theorem dX4_renew_1 : decode cX4_renew 1 = .ok (.iload_n 1, 1) := by decide +kernel
theorem dX4_renew_2 : decode cX4_renew 2 = .ok (.invokevirtual 217, 3) := by decide +kernel
theorem dX4_renew_5 : decode cX4_renew 5 = .ok (.astore_n 2, 1) := by decide +kernel
theorem dX4_renew_6 : decode cX4_renew 6 = .ok (.aload_n 0, 1) := by decide +kernel
theorem dX4_renew_7 : decode cX4_renew 7 = .ok (.aload_n 2, 1) := by decide +kernel
theorem dX4_renew_8 : decode cX4_renew 8 = .ok (.getfield 221, 3) := by decide +kernel
theorem dX4_renew_11 : decode cX4_renew 11 = .ok (.aload_n 2, 1) := by decide +kernel
theorem dX4_renew_12 : decode cX4_renew 12 = .ok (.getfield 224, 3) := by decide +kernel
theorem dX4_renew_15 : decode cX4_renew 15 = .ok (.aload_n 2, 1) := by decide +kernel
theorem dX4_renew_16 : decode cX4_renew 16 = .ok (.getfield 227, 3) := by decide +kernel
theorem dX4_renew_19 : decode cX4_renew 19 = .ok (.invokevirtual 204, 3) := by decide +kernel
theorem dX4_renew_22 : decode cX4_renew 22 = .ok (.astore_n 3, 1) := by decide +kernel
theorem dX4_renew_23 : decode cX4_renew 23 = .ok (.aload_n 3, 1) := by decide +kernel
theorem dX4_renew_24 : decode cX4_renew 24 = .ok (.ifnonnull 13, 3) := by decide +kernel
theorem dX4_renew_27 : decode cX4_renew 27 = .ok (.new 70, 3) := by decide +kernel
theorem dX4_renew_30 : decode cX4_renew 30 = .ok (.dup, 1) := by decide +kernel
theorem dX4_renew_31 : decode cX4_renew 31 = .ok (.ldc 228, 2) := by decide +kernel
theorem dX4_renew_33 : decode cX4_renew 33 = .ok (.invokespecial 74, 3) := by decide +kernel
theorem dX4_renew_36 : decode cX4_renew 36 = .ok (.athrow, 1) := by decide +kernel
theorem dX4_renew_37 : decode cX4_renew 37 = .ok (.aload_n 2, 1) := by decide +kernel
theorem dX4_renew_38 : decode cX4_renew 38 = .ok (.aload_n 3, 1) := by decide +kernel
theorem dX4_renew_39 : decode cX4_renew 39 = .ok (.putfield 230, 3) := by decide +kernel
theorem dX4_renew_42 : decode cX4_renew 42 = .ok (.aload_n 3, 1) := by decide +kernel
theorem dX4_renew_43 : decode cX4_renew 43 = .ok (.getfield 233, 3) := by decide +kernel
theorem dX4_renew_46 : decode cX4_renew 46 = .ok (.ireturn, 1) := by decide +kernel
theorem dX4_stop_0 : decode cX4_stop 0 = .ok (.aload_n 0, 1) := by decide +kernel
theorem dX4_stop_1 : decode cX4_stop 1 = .ok (.iload_n 1, 1) := by decide +kernel
theorem dX4_stop_2 : decode cX4_stop 2 = .ok (.invokevirtual 217, 3) := by decide +kernel
theorem dX4_stop_5 : decode cX4_stop 5 = .ok (.astore_n 2, 1) := by decide +kernel
theorem dX4_stop_6 : decode cX4_stop 6 = .ok (.aload_n 2, 1) := by decide +kernel
theorem dX4_stop_7 : decode cX4_stop 7 = .ok (.getfield 230, 3) := by decide +kernel
theorem dX4_stop_10 : decode cX4_stop 10 = .ok (.invokestatic 122, 3) := by decide +kernel
theorem dX4_stop_13 : decode cX4_stop 13 = .ok (.istore_n 3, 1) := by decide +kernel
theorem dX4_stop_14 : decode cX4_stop 14 = .ok (.aload_n 2, 1) := by decide +kernel
theorem dX4_stop_15 : decode cX4_stop 15 = .ok (.aconst_null, 1) := by decide +kernel
theorem dX4_stop_16 : decode cX4_stop 16 = .ok (.putfield 230, 3) := by decide +kernel
theorem dX4_stop_19 : decode cX4_stop 19 = .ok (.iload_n 3, 1) := by decide +kernel
theorem dX4_stop_20 : decode cX4_stop 20 = .ok (.ireturn, 1) := by decide +kernel
theorem dX4_runsFrom_0 : decode cX4_runsFrom 0 = .ok (.aload_n 0, 1) := by decide +kernel
theorem dX4_runsFrom_1 : decode cX4_runsFrom 1 = .ok (.iload_n 1, 1) := by decide +kernel
theorem dX4_runsFrom_2 : decode cX4_runsFrom 2 = .ok (.invokevirtual 234, 3) := by decide +kernel
theorem dX4_runsFrom_5 : decode cX4_runsFrom 5 = .ok (.getfield 230, 3) := by decide +kernel
theorem dX4_runsFrom_8 : decode cX4_runsFrom 8 = .ok (.invokestatic 122, 3) := by decide +kernel
theorem dX4_runsFrom_11 : decode cX4_runsFrom 11 = .ok (.ireturn, 1) := by decide +kernel
theorem dX4_old_0 : decode cX4_old 0 = .ok (.aload_n 0, 1) := by decide +kernel
theorem dX4_old_1 : decode cX4_old 1 = .ok (.invokevirtual 237, 3) := by decide +kernel
theorem dX4_old_4 : decode cX4_old 4 = .ok (.ireturn, 1) := by decide +kernel
theorem dX4_oldAt_0 : decode cX4_oldAt 0 = .ok (.aload_n 0, 1) := by decide +kernel
theorem dX4_oldAt_1 : decode cX4_oldAt 1 = .ok (.invokevirtual 237, 3) := by decide +kernel
theorem dX4_oldAt_4 : decode cX4_oldAt 4 = .ok (.istore_n 2, 1) := by decide +kernel
theorem dX4_oldAt_5 : decode cX4_oldAt 5 = .ok (.iload_n 1, 1) := by decide +kernel
theorem dX4_oldAt_6 : decode cX4_oldAt 6 = .ok (.ifCond .lt 26, 3) := by decide +kernel
theorem dX4_oldAt_9 : decode cX4_oldAt 9 = .ok (.iload_n 1, 1) := by decide +kernel
theorem dX4_oldAt_10 : decode cX4_oldAt 10 = .ok (.iload_n 2, 1) := by decide +kernel
theorem dX4_oldAt_11 : decode cX4_oldAt 11 = .ok (.if_icmp .ge 21, 3) := by decide +kernel
theorem dX4_oldAt_14 : decode cX4_oldAt 14 = .ok (.iload_n 1, 1) := by decide +kernel
theorem dX4_oldAt_15 : decode cX4_oldAt 15 = .ok (.aload_n 0, 1) := by decide +kernel
theorem dX4_oldAt_16 : decode cX4_oldAt 16 = .ok (.getfield 53, 3) := by decide +kernel
theorem dX4_oldAt_19 : decode cX4_oldAt 19 = .ok (.arraylength, 1) := by decide +kernel
theorem dX4_oldAt_20 : decode cX4_oldAt 20 = .ok (.if_icmp .ge 12, 3) := by decide +kernel
theorem dX4_oldAt_23 : decode cX4_oldAt 23 = .ok (.aload_n 0, 1) := by decide +kernel
theorem dX4_oldAt_24 : decode cX4_oldAt 24 = .ok (.getfield 53, 3) := by decide +kernel
theorem dX4_oldAt_27 : decode cX4_oldAt 27 = .ok (.iload_n 1, 1) := by decide +kernel
theorem dX4_oldAt_28 : decode cX4_oldAt 28 = .ok (.aaload, 1) := by decide +kernel
theorem dX4_oldAt_29 : decode cX4_oldAt 29 = .ok (.goto 4, 3) := by decide +kernel
theorem dX4_oldAt_32 : decode cX4_oldAt 32 = .ok (.aconst_null, 1) := by decide +kernel
theorem dX4_oldAt_33 : decode cX4_oldAt 33 = .ok (.astore_n 3, 1) := by decide +kernel
theorem dX4_oldAt_34 : decode cX4_oldAt 34 = .ok (.aload_n 3, 1) := by decide +kernel
theorem dX4_oldAt_35 : decode cX4_oldAt 35 = .ok (.ifnonnull 13, 3) := by decide +kernel
theorem dX4_oldAt_38 : decode cX4_oldAt 38 = .ok (.new 240, 3) := by decide +kernel
theorem dX4_oldAt_41 : decode cX4_oldAt 41 = .ok (.dup, 1) := by decide +kernel
theorem dX4_oldAt_42 : decode cX4_oldAt 42 = .ok (.ldc 242, 2) := by decide +kernel
theorem dX4_oldAt_44 : decode cX4_oldAt 44 = .ok (.invokespecial 244, 3) := by decide +kernel
theorem dX4_oldAt_47 : decode cX4_oldAt 47 = .ok (.athrow, 1) := by decide +kernel
theorem dX4_oldAt_48 : decode cX4_oldAt 48 = .ok (.aload_n 3, 1) := by decide +kernel
theorem dX4_oldAt_49 : decode cX4_oldAt 49 = .ok (.getfield 216, 3) := by decide +kernel
theorem dX4_oldAt_52 : decode cX4_oldAt 52 = .ok (.ireturn, 1) := by decide +kernel
theorem dX4_imageAt_0 : decode cX4_imageAt 0 = .ok (.iload_n 1, 1) := by decide +kernel
theorem dX4_imageAt_1 : decode cX4_imageAt 1 = .ok (.ifCond .lt 21, 3) := by decide +kernel
theorem dX4_imageAt_4 : decode cX4_imageAt 4 = .ok (.iload_n 1, 1) := by decide +kernel
theorem dX4_imageAt_5 : decode cX4_imageAt 5 = .ok (.aload_n 0, 1) := by decide +kernel
theorem dX4_imageAt_6 : decode cX4_imageAt 6 = .ok (.getfield 25, 3) := by decide +kernel
theorem dX4_imageAt_9 : decode cX4_imageAt 9 = .ok (.arraylength, 1) := by decide +kernel
theorem dX4_imageAt_10 : decode cX4_imageAt 10 = .ok (.if_icmp .ge 12, 3) := by decide +kernel
theorem dX4_imageAt_13 : decode cX4_imageAt 13 = .ok (.aload_n 0, 1) := by decide +kernel
theorem dX4_imageAt_14 : decode cX4_imageAt 14 = .ok (.getfield 25, 3) := by decide +kernel
theorem dX4_imageAt_17 : decode cX4_imageAt 17 = .ok (.iload_n 1, 1) := by decide +kernel
theorem dX4_imageAt_18 : decode cX4_imageAt 18 = .ok (.aaload, 1) := by decide +kernel
theorem dX4_imageAt_19 : decode cX4_imageAt 19 = .ok (.goto 4, 3) := by decide +kernel
theorem dX4_imageAt_22 : decode cX4_imageAt 22 = .ok (.aconst_null, 1) := by decide +kernel
theorem dX4_imageAt_23 : decode cX4_imageAt 23 = .ok (.astore_n 2, 1) := by decide +kernel
theorem dX4_imageAt_24 : decode cX4_imageAt 24 = .ok (.aload_n 2, 1) := by decide +kernel
theorem dX4_imageAt_25 : decode cX4_imageAt 25 = .ok (.ifnonnull 13, 3) := by decide +kernel
theorem dX4_imageAt_28 : decode cX4_imageAt 28 = .ok (.new 240, 3) := by decide +kernel
theorem dX4_imageAt_31 : decode cX4_imageAt 31 = .ok (.dup, 1) := by decide +kernel
theorem dX4_imageAt_32 : decode cX4_imageAt 32 = .ok (.ldc 245, 2) := by decide +kernel
theorem dX4_imageAt_34 : decode cX4_imageAt 34 = .ok (.invokespecial 244, 3) := by decide +kernel
theorem dX4_imageAt_37 : decode cX4_imageAt 37 = .ok (.athrow, 1) := by decide +kernel
theorem dX4_imageAt_38 : decode cX4_imageAt 38 = .ok (.aload_n 2, 1) := by decide +kernel
theorem dX4_imageAt_39 : decode cX4_imageAt 39 = .ok (.areturn, 1) := by decide +kernel
theorem dX4_beginOf_0 : decode cX4_beginOf 0 = .ok (.aload_n 0, 1) := by decide +kernel
theorem dX4_beginOf_1 : decode cX4_beginOf 1 = .ok (.getfield 99, 3) := by decide +kernel
theorem dX4_beginOf_4 : decode cX4_beginOf 4 = .ok (.ifnull 13, 3) := by decide +kernel
theorem dX4_beginOf_7 : decode cX4_beginOf 7 = .ok (.aload_n 0, 1) := by decide +kernel
theorem dX4_beginOf_8 : decode cX4_beginOf 8 = .ok (.getfield 99, 3) := by decide +kernel
theorem dX4_beginOf_11 : decode cX4_beginOf 11 = .ok (.getfield 103, 3) := by decide +kernel
theorem dX4_beginOf_14 : decode cX4_beginOf 14 = .ok (.ifnonnull 7, 3) := by decide +kernel
theorem dX4_beginOf_17 : decode cX4_beginOf 17 = .ok (.iconst (-1), 1) := by decide +kernel
theorem dX4_beginOf_18 : decode cX4_beginOf 18 = .ok (.goto 13, 3) := by decide +kernel
theorem dX4_beginOf_21 : decode cX4_beginOf 21 = .ok (.aload_n 0, 1) := by decide +kernel
theorem dX4_beginOf_22 : decode cX4_beginOf 22 = .ok (.getfield 99, 3) := by decide +kernel
theorem dX4_beginOf_25 : decode cX4_beginOf 25 = .ok (.getfield 103, 3) := by decide +kernel
theorem dX4_beginOf_28 : decode cX4_beginOf 28 = .ok (.getfield 145, 3) := by decide +kernel
theorem dX4_beginOf_31 : decode cX4_beginOf 31 = .ok (.ireturn, 1) := by decide +kernel
theorem dX4_topFrom_0 : decode cX4_topFrom 0 = .ok (.iload_n 1, 1) := by decide +kernel
theorem dX4_topFrom_1 : decode cX4_topFrom 1 = .ok (.istore_n 3, 1) := by decide +kernel
theorem dX4_topFrom_2 : decode cX4_topFrom 2 = .ok (.iconst 0, 1) := by decide +kernel
theorem dX4_topFrom_3 : decode cX4_topFrom 3 = .ok (.istore 4, 2) := by decide +kernel
theorem dX4_topFrom_5 : decode cX4_topFrom 5 = .ok (.iload 4, 2) := by decide +kernel
theorem dX4_topFrom_7 : decode cX4_topFrom 7 = .ok (.aload_n 2, 1) := by decide +kernel
theorem dX4_topFrom_8 : decode cX4_topFrom 8 = .ok (.getfield 94, 3) := by decide +kernel
theorem dX4_topFrom_11 : decode cX4_topFrom 11 = .ok (.if_icmp .ge 40, 3) := by decide +kernel
theorem dX4_topFrom_14 : decode cX4_topFrom 14 = .ok (.aload_n 2, 1) := by decide +kernel
theorem dX4_topFrom_15 : decode cX4_topFrom 15 = .ok (.getfield 247, 3) := by decide +kernel
theorem dX4_topFrom_18 : decode cX4_topFrom 18 = .ok (.iload 4, 2) := by decide +kernel
theorem dX4_topFrom_20 : decode cX4_topFrom 20 = .ok (.invokestatic 181, 3) := by decide +kernel
theorem dX4_topFrom_23 : decode cX4_topFrom 23 = .ok (.istore 5, 2) := by decide +kernel
theorem dX4_topFrom_25 : decode cX4_topFrom 25 = .ok (.aload_n 0, 1) := by decide +kernel
theorem dX4_topFrom_26 : decode cX4_topFrom 26 = .ok (.getfield 12, 3) := by decide +kernel
theorem dX4_topFrom_29 : decode cX4_topFrom 29 = .ok (.iload_n 3, 1) := by decide +kernel
theorem dX4_topFrom_30 : decode cX4_topFrom 30 = .ok (.iload 5, 2) := by decide +kernel
theorem dX4_topFrom_32 : decode cX4_topFrom 32 = .ok (.aload_n 0, 1) := by decide +kernel
theorem dX4_topFrom_33 : decode cX4_topFrom 33 = .ok (.getfield 16, 3) := by decide +kernel
theorem dX4_topFrom_36 : decode cX4_topFrom 36 = .ok (.iload 5, 2) := by decide +kernel
theorem dX4_topFrom_38 : decode cX4_topFrom 38 = .ok (.invokestatic 181, 3) := by decide +kernel
theorem dX4_topFrom_41 : decode cX4_topFrom 41 = .ok (.invokevirtual 250, 3) := by decide +kernel
theorem dX4_topFrom_44 : decode cX4_topFrom 44 = .ok (.istore_n 3, 1) := by decide +kernel
theorem dX4_topFrom_45 : decode cX4_topFrom 45 = .ok (.iinc 4 1, 3) := by decide +kernel
theorem dX4_topFrom_48 : decode cX4_topFrom 48 = .ok (.goto (-43), 3) := by decide +kernel
theorem dX4_topFrom_51 : decode cX4_topFrom 51 = .ok (.iload_n 3, 1) := by decide +kernel
theorem dX4_topFrom_52 : decode cX4_topFrom 52 = .ok (.ireturn, 1) := by decide +kernel
theorem dX4_makeTopFrom_0 : decode cX4_makeTopFrom 0 = .ok (.iload_n 1, 1) := by decide +kernel
theorem dX4_makeTopFrom_1 : decode cX4_makeTopFrom 1 = .ok (.istore_n 3, 1) := by decide +kernel
theorem dX4_makeTopFrom_2 : decode cX4_makeTopFrom 2 = .ok (.iconst 0, 1) := by decide +kernel
theorem dX4_makeTopFrom_3 : decode cX4_makeTopFrom 3 = .ok (.istore 4, 2) := by decide +kernel
theorem dX4_makeTopFrom_5 : decode cX4_makeTopFrom 5 = .ok (.iload 4, 2) := by decide +kernel
theorem dX4_makeTopFrom_7 : decode cX4_makeTopFrom 7 = .ok (.aload_n 2, 1) := by decide +kernel
theorem dX4_makeTopFrom_8 : decode cX4_makeTopFrom 8 = .ok (.getfield 94, 3) := by decide +kernel
theorem dX4_makeTopFrom_11 : decode cX4_makeTopFrom 11 = .ok (.if_icmp .ge 40, 3) := by decide +kernel
theorem dX4_makeTopFrom_14 : decode cX4_makeTopFrom 14 = .ok (.aload_n 2, 1) := by decide +kernel
theorem dX4_makeTopFrom_15 : decode cX4_makeTopFrom 15 = .ok (.getfield 247, 3) := by decide +kernel
theorem dX4_makeTopFrom_18 : decode cX4_makeTopFrom 18 = .ok (.iload 4, 2) := by decide +kernel
theorem dX4_makeTopFrom_20 : decode cX4_makeTopFrom 20 = .ok (.invokestatic 181, 3) := by decide +kernel
theorem dX4_makeTopFrom_23 : decode cX4_makeTopFrom 23 = .ok (.istore 5, 2) := by decide +kernel
theorem dX4_makeTopFrom_25 : decode cX4_makeTopFrom 25 = .ok (.aload_n 0, 1) := by decide +kernel
theorem dX4_makeTopFrom_26 : decode cX4_makeTopFrom 26 = .ok (.getfield 12, 3) := by decide +kernel
theorem dX4_makeTopFrom_29 : decode cX4_makeTopFrom 29 = .ok (.iload_n 3, 1) := by decide +kernel
theorem dX4_makeTopFrom_30 : decode cX4_makeTopFrom 30 = .ok (.iload 5, 2) := by decide +kernel
theorem dX4_makeTopFrom_32 : decode cX4_makeTopFrom 32 = .ok (.aload_n 0, 1) := by decide +kernel
theorem dX4_makeTopFrom_33 : decode cX4_makeTopFrom 33 = .ok (.getfield 16, 3) := by decide +kernel
theorem dX4_makeTopFrom_36 : decode cX4_makeTopFrom 36 = .ok (.iload 5, 2) := by decide +kernel
theorem dX4_makeTopFrom_38 : decode cX4_makeTopFrom 38 = .ok (.invokestatic 181, 3) := by decide +kernel
theorem dX4_makeTopFrom_41 : decode cX4_makeTopFrom 41 = .ok (.invokevirtual 254, 3) := by decide +kernel
theorem dX4_makeTopFrom_44 : decode cX4_makeTopFrom 44 = .ok (.istore_n 3, 1) := by decide +kernel
theorem dX4_makeTopFrom_45 : decode cX4_makeTopFrom 45 = .ok (.iinc 4 1, 3) := by decide +kernel
theorem dX4_makeTopFrom_48 : decode cX4_makeTopFrom 48 = .ok (.goto (-43), 3) := by decide +kernel
theorem dX4_makeTopFrom_51 : decode cX4_makeTopFrom 51 = .ok (.iload_n 3, 1) := by decide +kernel
theorem dX4_makeTopFrom_52 : decode cX4_makeTopFrom 52 = .ok (.ireturn, 1) := by decide +kernel
theorem dX4_needsBake_0 : decode cX4_needsBake 0 = .ok (.aload_n 1, 1) := by decide +kernel
theorem dX4_needsBake_1 : decode cX4_needsBake 1 = .ok (.getfield 103, 3) := by decide +kernel
theorem dX4_needsBake_4 : decode cX4_needsBake 4 = .ok (.ifnull 22, 3) := by decide +kernel
theorem dX4_needsBake_7 : decode cX4_needsBake 7 = .ok (.aload_n 1, 1) := by decide +kernel
theorem dX4_needsBake_8 : decode cX4_needsBake 8 = .ok (.getfield 103, 3) := by decide +kernel
theorem dX4_needsBake_11 : decode cX4_needsBake 11 = .ok (.getfield 145, 3) := by decide +kernel
theorem dX4_needsBake_14 : decode cX4_needsBake 14 = .ok (.aload_n 0, 1) := by decide +kernel
theorem dX4_needsBake_15 : decode cX4_needsBake 15 = .ok (.aload_n 1, 1) := by decide +kernel
theorem dX4_needsBake_16 : decode cX4_needsBake 16 = .ok (.invokestatic 257, 3) := by decide +kernel
theorem dX4_needsBake_19 : decode cX4_needsBake 19 = .ok (.aload_n 1, 1) := by decide +kernel
theorem dX4_needsBake_20 : decode cX4_needsBake 20 = .ok (.invokevirtual 261, 3) := by decide +kernel
theorem dX4_needsBake_23 : decode cX4_needsBake 23 = .ok (.if_icmp .eq 7, 3) := by decide +kernel
theorem dX4_needsBake_26 : decode cX4_needsBake 26 = .ok (.iconst 1, 1) := by decide +kernel
theorem dX4_needsBake_27 : decode cX4_needsBake 27 = .ok (.goto 4, 3) := by decide +kernel
theorem dX4_needsBake_30 : decode cX4_needsBake 30 = .ok (.iconst 0, 1) := by decide +kernel
theorem dX4_needsBake_31 : decode cX4_needsBake 31 = .ok (.ireturn, 1) := by decide +kernel
theorem dX4_bakeIfNeeded_0 : decode cX4_bakeIfNeeded 0 = .ok (.aload_n 1, 1) := by decide +kernel
theorem dX4_bakeIfNeeded_1 : decode cX4_bakeIfNeeded 1 = .ok (.ifnull 30, 3) := by decide +kernel
theorem dX4_bakeIfNeeded_4 : decode cX4_bakeIfNeeded 4 = .ok (.aload_n 0, 1) := by decide +kernel
theorem dX4_bakeIfNeeded_5 : decode cX4_bakeIfNeeded 5 = .ok (.aload_n 1, 1) := by decide +kernel
theorem dX4_bakeIfNeeded_6 : decode cX4_bakeIfNeeded 6 = .ok (.invokevirtual 109, 3) := by decide +kernel
theorem dX4_bakeIfNeeded_9 : decode cX4_bakeIfNeeded 9 = .ok (.ifCond .eq 22, 3) := by decide +kernel
theorem dX4_bakeIfNeeded_12 : decode cX4_bakeIfNeeded 12 = .ok (.aload_n 0, 1) := by decide +kernel
theorem dX4_bakeIfNeeded_13 : decode cX4_bakeIfNeeded 13 = .ok (.getfield 113, 3) := by decide +kernel
theorem dX4_bakeIfNeeded_16 : decode cX4_bakeIfNeeded 16 = .ok (.ifCond .lt 15, 3) := by decide +kernel
theorem dX4_bakeIfNeeded_19 : decode cX4_bakeIfNeeded 19 = .ok (.aload_n 0, 1) := by decide +kernel
theorem dX4_bakeIfNeeded_20 : decode cX4_bakeIfNeeded 20 = .ok (.getfield 113, 3) := by decide +kernel
theorem dX4_bakeIfNeeded_23 : decode cX4_bakeIfNeeded 23 = .ok (.aload_n 0, 1) := by decide +kernel
theorem dX4_bakeIfNeeded_24 : decode cX4_bakeIfNeeded 24 = .ok (.getfield 31, 3) := by decide +kernel
theorem dX4_bakeIfNeeded_27 : decode cX4_bakeIfNeeded 27 = .ok (.arraylength, 1) := by decide +kernel
theorem dX4_bakeIfNeeded_28 : decode cX4_bakeIfNeeded 28 = .ok (.if_icmp .lt 4, 3) := by decide +kernel
theorem dX4_bakeIfNeeded_31 : decode cX4_bakeIfNeeded 31 = .ok (.return_, 1) := by decide +kernel
theorem dX4_bakeIfNeeded_32 : decode cX4_bakeIfNeeded 32 = .ok (.aload_n 0, 1) := by decide +kernel
theorem dX4_bakeIfNeeded_33 : decode cX4_bakeIfNeeded 33 = .ok (.aload_n 1, 1) := by decide +kernel
theorem dX4_bakeIfNeeded_34 : decode cX4_bakeIfNeeded 34 = .ok (.invokestatic 257, 3) := by decide +kernel
theorem dX4_bakeIfNeeded_37 : decode cX4_bakeIfNeeded 37 = .ok (.aload_n 1, 1) := by decide +kernel
theorem dX4_bakeIfNeeded_38 : decode cX4_bakeIfNeeded 38 = .ok (.invokevirtual 265, 3) := by decide +kernel
theorem dX4_bakeIfNeeded_41 : decode cX4_bakeIfNeeded 41 = .ok (.istore_n 2, 1) := by decide +kernel
theorem dX4_bakeIfNeeded_42 : decode cX4_bakeIfNeeded 42 = .ok (.new 29, 3) := by decide +kernel
theorem dX4_bakeIfNeeded_45 : decode cX4_bakeIfNeeded 45 = .ok (.dup, 1) := by decide +kernel
theorem dX4_bakeIfNeeded_46 : decode cX4_bakeIfNeeded 46 = .ok (.aload_n 0, 1) := by decide +kernel
theorem dX4_bakeIfNeeded_47 : decode cX4_bakeIfNeeded 47 = .ok (.getfield 113, 3) := by decide +kernel
theorem dX4_bakeIfNeeded_50 : decode cX4_bakeIfNeeded 50 = .ok (.aload_n 1, 1) := by decide +kernel
theorem dX4_bakeIfNeeded_51 : decode cX4_bakeIfNeeded 51 = .ok (.iload_n 2, 1) := by decide +kernel
theorem dX4_bakeIfNeeded_52 : decode cX4_bakeIfNeeded 52 = .ok (.aload_n 0, 1) := by decide +kernel
theorem dX4_bakeIfNeeded_53 : decode cX4_bakeIfNeeded 53 = .ok (.getfield 178, 3) := by decide +kernel
theorem dX4_bakeIfNeeded_56 : decode cX4_bakeIfNeeded 56 = .ok (.invokespecial 268, 3) := by decide +kernel
theorem dX4_bakeIfNeeded_59 : decode cX4_bakeIfNeeded 59 = .ok (.astore_n 3, 1) := by decide +kernel
theorem dX4_bakeIfNeeded_60 : decode cX4_bakeIfNeeded 60 = .ok (.aload_n 0, 1) := by decide +kernel
theorem dX4_bakeIfNeeded_61 : decode cX4_bakeIfNeeded 61 = .ok (.getfield 31, 3) := by decide +kernel
theorem dX4_bakeIfNeeded_64 : decode cX4_bakeIfNeeded 64 = .ok (.aload_n 0, 1) := by decide +kernel
theorem dX4_bakeIfNeeded_65 : decode cX4_bakeIfNeeded 65 = .ok (.getfield 113, 3) := by decide +kernel
theorem dX4_bakeIfNeeded_68 : decode cX4_bakeIfNeeded 68 = .ok (.aload_n 3, 1) := by decide +kernel
theorem dX4_bakeIfNeeded_69 : decode cX4_bakeIfNeeded 69 = .ok (.aastore, 1) := by decide +kernel
theorem dX4_bakeIfNeeded_70 : decode cX4_bakeIfNeeded 70 = .ok (.aload_n 0, 1) := by decide +kernel
theorem dX4_bakeIfNeeded_71 : decode cX4_bakeIfNeeded 71 = .ok (.dup, 1) := by decide +kernel
theorem dX4_bakeIfNeeded_72 : decode cX4_bakeIfNeeded 72 = .ok (.getfield 113, 3) := by decide +kernel
theorem dX4_bakeIfNeeded_75 : decode cX4_bakeIfNeeded 75 = .ok (.iconst 1, 1) := by decide +kernel
theorem dX4_bakeIfNeeded_76 : decode cX4_bakeIfNeeded 76 = .ok (.iadd, 1) := by decide +kernel
theorem dX4_bakeIfNeeded_77 : decode cX4_bakeIfNeeded 77 = .ok (.putfield 113, 3) := by decide +kernel
theorem dX4_bakeIfNeeded_80 : decode cX4_bakeIfNeeded 80 = .ok (.aload_n 1, 1) := by decide +kernel
theorem dX4_bakeIfNeeded_81 : decode cX4_bakeIfNeeded 81 = .ok (.aload_n 3, 1) := by decide +kernel
theorem dX4_bakeIfNeeded_82 : decode cX4_bakeIfNeeded 82 = .ok (.putfield 103, 3) := by decide +kernel
theorem dX4_bakeIfNeeded_85 : decode cX4_bakeIfNeeded 85 = .ok (.return_, 1) := by decide +kernel
theorem dX4_countBakesToCome_0 : decode cX4_countBakesToCome 0 = .ok (.iconst 0, 1) := by decide +kernel
theorem dX4_countBakesToCome_1 : decode cX4_countBakesToCome 1 = .ok (.istore_n 1, 1) := by decide +kernel
theorem dX4_countBakesToCome_2 : decode cX4_countBakesToCome 2 = .ok (.aload_n 0, 1) := by decide +kernel
theorem dX4_countBakesToCome_3 : decode cX4_countBakesToCome 3 = .ok (.getfield 25, 3) := by decide +kernel
theorem dX4_countBakesToCome_6 : decode cX4_countBakesToCome 6 = .ok (.astore_n 2, 1) := by decide +kernel
theorem dX4_countBakesToCome_7 : decode cX4_countBakesToCome 7 = .ok (.aload_n 2, 1) := by decide +kernel
theorem dX4_countBakesToCome_8 : decode cX4_countBakesToCome 8 = .ok (.arraylength, 1) := by decide +kernel
theorem dX4_countBakesToCome_9 : decode cX4_countBakesToCome 9 = .ok (.istore_n 3, 1) := by decide +kernel
theorem dX4_countBakesToCome_10 : decode cX4_countBakesToCome 10 = .ok (.iconst 0, 1) := by decide +kernel
theorem dX4_countBakesToCome_11 : decode cX4_countBakesToCome 11 = .ok (.istore 4, 2) := by decide +kernel
theorem dX4_countBakesToCome_13 : decode cX4_countBakesToCome 13 = .ok (.iload 4, 2) := by decide +kernel
theorem dX4_countBakesToCome_15 : decode cX4_countBakesToCome 15 = .ok (.iload_n 3, 1) := by decide +kernel
theorem dX4_countBakesToCome_16 : decode cX4_countBakesToCome 16 = .ok (.if_icmp .ge 82, 3) := by decide +kernel
theorem dX4_countBakesToCome_19 : decode cX4_countBakesToCome 19 = .ok (.aload_n 2, 1) := by decide +kernel
theorem dX4_countBakesToCome_20 : decode cX4_countBakesToCome 20 = .ok (.iload 4, 2) := by decide +kernel
theorem dX4_countBakesToCome_22 : decode cX4_countBakesToCome 22 = .ok (.aaload, 1) := by decide +kernel
theorem dX4_countBakesToCome_23 : decode cX4_countBakesToCome 23 = .ok (.astore 5, 2) := by decide +kernel
theorem dX4_countBakesToCome_25 : decode cX4_countBakesToCome 25 = .ok (.aload 5, 2) := by decide +kernel
theorem dX4_countBakesToCome_27 : decode cX4_countBakesToCome 27 = .ok (.ifnull 65, 3) := by decide +kernel
theorem dX4_countBakesToCome_30 : decode cX4_countBakesToCome 30 = .ok (.aload 5, 2) := by decide +kernel
theorem dX4_countBakesToCome_32 : decode cX4_countBakesToCome 32 = .ok (.getfield 99, 3) := by decide +kernel
theorem dX4_countBakesToCome_35 : decode cX4_countBakesToCome 35 = .ok (.ifnonnull 7, 3) := by decide +kernel
theorem dX4_countBakesToCome_38 : decode cX4_countBakesToCome 38 = .ok (.iconst (-1), 1) := by decide +kernel
theorem dX4_countBakesToCome_39 : decode cX4_countBakesToCome 39 = .ok (.goto 11, 3) := by decide +kernel
theorem dX4_countBakesToCome_42 : decode cX4_countBakesToCome 42 = .ok (.aload 5, 2) := by decide +kernel
theorem dX4_countBakesToCome_44 : decode cX4_countBakesToCome 44 = .ok (.getfield 99, 3) := by decide +kernel
theorem dX4_countBakesToCome_47 : decode cX4_countBakesToCome 47 = .ok (.getfield 271, 3) := by decide +kernel
theorem dX4_countBakesToCome_50 : decode cX4_countBakesToCome 50 = .ok (.istore 6, 2) := by decide +kernel
theorem dX4_countBakesToCome_52 : decode cX4_countBakesToCome 52 = .ok (.aload 5, 2) := by decide +kernel
theorem dX4_countBakesToCome_54 : decode cX4_countBakesToCome 54 = .ok (.aload_n 0, 1) := by decide +kernel
theorem dX4_countBakesToCome_55 : decode cX4_countBakesToCome 55 = .ok (.iload 6, 2) := by decide +kernel
theorem dX4_countBakesToCome_57 : decode cX4_countBakesToCome 57 = .ok (.aload 5, 2) := by decide +kernel
theorem dX4_countBakesToCome_59 : decode cX4_countBakesToCome 59 = .ok (.invokevirtual 261, 3) := by decide +kernel
theorem dX4_countBakesToCome_62 : decode cX4_countBakesToCome 62 = .ok (.putfield 271, 3) := by decide +kernel
theorem dX4_countBakesToCome_65 : decode cX4_countBakesToCome 65 = .ok (.aload 5, 2) := by decide +kernel
theorem dX4_countBakesToCome_67 : decode cX4_countBakesToCome 67 = .ok (.getfield 103, 3) := by decide +kernel
theorem dX4_countBakesToCome_70 : decode cX4_countBakesToCome 70 = .ok (.ifnull 19, 3) := by decide +kernel
theorem dX4_countBakesToCome_73 : decode cX4_countBakesToCome 73 = .ok (.aload 5, 2) := by decide +kernel
theorem dX4_countBakesToCome_75 : decode cX4_countBakesToCome 75 = .ok (.getfield 103, 3) := by decide +kernel
theorem dX4_countBakesToCome_78 : decode cX4_countBakesToCome 78 = .ok (.getfield 145, 3) := by decide +kernel
theorem dX4_countBakesToCome_81 : decode cX4_countBakesToCome 81 = .ok (.aload 5, 2) := by decide +kernel
theorem dX4_countBakesToCome_83 : decode cX4_countBakesToCome 83 = .ok (.getfield 271, 3) := by decide +kernel
theorem dX4_countBakesToCome_86 : decode cX4_countBakesToCome 86 = .ok (.if_icmp .eq 6, 3) := by decide +kernel
theorem dX4_countBakesToCome_89 : decode cX4_countBakesToCome 89 = .ok (.iinc 1 1, 3) := by decide +kernel
theorem dX4_countBakesToCome_92 : decode cX4_countBakesToCome 92 = .ok (.iinc 4 1, 3) := by decide +kernel
theorem dX4_countBakesToCome_95 : decode cX4_countBakesToCome 95 = .ok (.goto (-82), 3) := by decide +kernel
theorem dX4_countBakesToCome_98 : decode cX4_countBakesToCome 98 = .ok (.iload_n 1, 1) := by decide +kernel
theorem dX4_countBakesToCome_99 : decode cX4_countBakesToCome 99 = .ok (.ireturn, 1) := by decide +kernel
theorem dX4_fillLine_0 : decode cX4_fillLine 0 = .ok (.aload_n 0, 1) := by decide +kernel
theorem dX4_fillLine_1 : decode cX4_fillLine 1 = .ok (.aconst_null, 1) := by decide +kernel
theorem dX4_fillLine_2 : decode cX4_fillLine 2 = .ok (.iconst 0, 1) := by decide +kernel
theorem dX4_fillLine_3 : decode cX4_fillLine 3 = .ok (.invokevirtual 274, 3) := by decide +kernel
theorem dX4_fillLine_6 : decode cX4_fillLine 6 = .ok (.istore_n 1, 1) := by decide +kernel
theorem dX4_fillLine_7 : decode cX4_fillLine 7 = .ok (.iconst 0, 1) := by decide +kernel
theorem dX4_fillLine_8 : decode cX4_fillLine 8 = .ok (.istore_n 2, 1) := by decide +kernel
theorem dX4_fillLine_9 : decode cX4_fillLine 9 = .ok (.iload_n 2, 1) := by decide +kernel
theorem dX4_fillLine_10 : decode cX4_fillLine 10 = .ok (.iload_n 1, 1) := by decide +kernel
theorem dX4_fillLine_11 : decode cX4_fillLine 11 = .ok (.if_icmp .ge 30, 3) := by decide +kernel
theorem dX4_fillLine_14 : decode cX4_fillLine 14 = .ok (.iload_n 2, 1) := by decide +kernel
theorem dX4_fillLine_15 : decode cX4_fillLine 15 = .ok (.aload_n 0, 1) := by decide +kernel
theorem dX4_fillLine_16 : decode cX4_fillLine 16 = .ok (.getfield 44, 3) := by decide +kernel
theorem dX4_fillLine_19 : decode cX4_fillLine 19 = .ok (.arraylength, 1) := by decide +kernel
theorem dX4_fillLine_20 : decode cX4_fillLine 20 = .ok (.if_icmp .ge 21, 3) := by decide +kernel
theorem dX4_fillLine_23 : decode cX4_fillLine 23 = .ok (.aload_n 0, 1) := by decide +kernel
theorem dX4_fillLine_24 : decode cX4_fillLine 24 = .ok (.aload_n 0, 1) := by decide +kernel
theorem dX4_fillLine_25 : decode cX4_fillLine 25 = .ok (.getfield 44, 3) := by decide +kernel
theorem dX4_fillLine_28 : decode cX4_fillLine 28 = .ok (.iload_n 2, 1) := by decide +kernel
theorem dX4_fillLine_29 : decode cX4_fillLine 29 = .ok (.aaload, 1) := by decide +kernel
theorem dX4_fillLine_30 : decode cX4_fillLine 30 = .ok (.iload_n 1, 1) := by decide +kernel
theorem dX4_fillLine_31 : decode cX4_fillLine 31 = .ok (.invokevirtual 274, 3) := by decide +kernel
theorem dX4_fillLine_34 : decode cX4_fillLine 34 = .ok (.istore_n 1, 1) := by decide +kernel
theorem dX4_fillLine_35 : decode cX4_fillLine 35 = .ok (.iinc 2 1, 3) := by decide +kernel
theorem dX4_fillLine_38 : decode cX4_fillLine 38 = .ok (.goto (-29), 3) := by decide +kernel
theorem dX4_fillLine_41 : decode cX4_fillLine 41 = .ok (.return_, 1) := by decide +kernel
theorem dX4_lineUpChildren_0 : decode cX4_lineUpChildren 0 = .ok (.iload_n 2, 1) := by decide +kernel
theorem dX4_lineUpChildren_1 : decode cX4_lineUpChildren 1 = .ok (.istore_n 3, 1) := by decide +kernel
theorem dX4_lineUpChildren_2 : decode cX4_lineUpChildren 2 = .ok (.aload_n 0, 1) := by decide +kernel
theorem dX4_lineUpChildren_3 : decode cX4_lineUpChildren 3 = .ok (.getfield 25, 3) := by decide +kernel
theorem dX4_lineUpChildren_6 : decode cX4_lineUpChildren 6 = .ok (.astore 4, 2) := by decide +kernel
theorem dX4_lineUpChildren_8 : decode cX4_lineUpChildren 8 = .ok (.aload 4, 2) := by decide +kernel
theorem dX4_lineUpChildren_10 : decode cX4_lineUpChildren 10 = .ok (.arraylength, 1) := by decide +kernel
theorem dX4_lineUpChildren_11 : decode cX4_lineUpChildren 11 = .ok (.istore 5, 2) := by decide +kernel
theorem dX4_lineUpChildren_13 : decode cX4_lineUpChildren 13 = .ok (.iconst 0, 1) := by decide +kernel
theorem dX4_lineUpChildren_14 : decode cX4_lineUpChildren 14 = .ok (.istore 6, 2) := by decide +kernel
theorem dX4_lineUpChildren_16 : decode cX4_lineUpChildren 16 = .ok (.iload 6, 2) := by decide +kernel
theorem dX4_lineUpChildren_18 : decode cX4_lineUpChildren 18 = .ok (.iload 5, 2) := by decide +kernel
theorem dX4_lineUpChildren_20 : decode cX4_lineUpChildren 20 = .ok (.if_icmp .ge 54, 3) := by decide +kernel
theorem dX4_lineUpChildren_23 : decode cX4_lineUpChildren 23 = .ok (.aload 4, 2) := by decide +kernel
theorem dX4_lineUpChildren_25 : decode cX4_lineUpChildren 25 = .ok (.iload 6, 2) := by decide +kernel
theorem dX4_lineUpChildren_27 : decode cX4_lineUpChildren 27 = .ok (.aaload, 1) := by decide +kernel
theorem dX4_lineUpChildren_28 : decode cX4_lineUpChildren 28 = .ok (.astore 7, 2) := by decide +kernel
theorem dX4_lineUpChildren_30 : decode cX4_lineUpChildren 30 = .ok (.aload 7, 2) := by decide +kernel
theorem dX4_lineUpChildren_32 : decode cX4_lineUpChildren 32 = .ok (.ifnull 36, 3) := by decide +kernel
theorem dX4_lineUpChildren_35 : decode cX4_lineUpChildren 35 = .ok (.aload 7, 2) := by decide +kernel
theorem dX4_lineUpChildren_37 : decode cX4_lineUpChildren 37 = .ok (.getfield 99, 3) := by decide +kernel
theorem dX4_lineUpChildren_40 : decode cX4_lineUpChildren 40 = .ok (.aload_n 1, 1) := by decide +kernel
theorem dX4_lineUpChildren_41 : decode cX4_lineUpChildren 41 = .ok (.if_acmp .ne 27, 3) := by decide +kernel
theorem dX4_lineUpChildren_44 : decode cX4_lineUpChildren 44 = .ok (.iload_n 3, 1) := by decide +kernel
theorem dX4_lineUpChildren_45 : decode cX4_lineUpChildren 45 = .ok (.ifCond .lt 23, 3) := by decide +kernel
theorem dX4_lineUpChildren_48 : decode cX4_lineUpChildren 48 = .ok (.iload_n 3, 1) := by decide +kernel
theorem dX4_lineUpChildren_49 : decode cX4_lineUpChildren 49 = .ok (.aload_n 0, 1) := by decide +kernel
theorem dX4_lineUpChildren_50 : decode cX4_lineUpChildren 50 = .ok (.getfield 44, 3) := by decide +kernel
theorem dX4_lineUpChildren_53 : decode cX4_lineUpChildren 53 = .ok (.arraylength, 1) := by decide +kernel
theorem dX4_lineUpChildren_54 : decode cX4_lineUpChildren 54 = .ok (.if_icmp .ge 14, 3) := by decide +kernel
theorem dX4_lineUpChildren_57 : decode cX4_lineUpChildren 57 = .ok (.aload_n 0, 1) := by decide +kernel
theorem dX4_lineUpChildren_58 : decode cX4_lineUpChildren 58 = .ok (.getfield 44, 3) := by decide +kernel
theorem dX4_lineUpChildren_61 : decode cX4_lineUpChildren 61 = .ok (.iload_n 3, 1) := by decide +kernel
theorem dX4_lineUpChildren_62 : decode cX4_lineUpChildren 62 = .ok (.aload 7, 2) := by decide +kernel
theorem dX4_lineUpChildren_64 : decode cX4_lineUpChildren 64 = .ok (.aastore, 1) := by decide +kernel
theorem dX4_lineUpChildren_65 : decode cX4_lineUpChildren 65 = .ok (.iinc 3 1, 3) := by decide +kernel
theorem dX4_lineUpChildren_68 : decode cX4_lineUpChildren 68 = .ok (.iinc 6 1, 3) := by decide +kernel
theorem dX4_lineUpChildren_71 : decode cX4_lineUpChildren 71 = .ok (.goto (-55), 3) := by decide +kernel
theorem dX4_lineUpChildren_74 : decode cX4_lineUpChildren 74 = .ok (.iload_n 3, 1) := by decide +kernel
theorem dX4_lineUpChildren_75 : decode cX4_lineUpChildren 75 = .ok (.ireturn, 1) := by decide +kernel
theorem dX4_isMadeAsNow_0 : decode cX4_isMadeAsNow 0 = .ok (.aload_n 1, 1) := by decide +kernel
theorem dX4_isMadeAsNow_1 : decode cX4_isMadeAsNow 1 = .ok (.getfield 103, 3) := by decide +kernel
theorem dX4_isMadeAsNow_4 : decode cX4_isMadeAsNow 4 = .ok (.ifnonnull 5, 3) := by decide +kernel
theorem dX4_isMadeAsNow_7 : decode cX4_isMadeAsNow 7 = .ok (.iconst 0, 1) := by decide +kernel
theorem dX4_isMadeAsNow_8 : decode cX4_isMadeAsNow 8 = .ok (.ireturn, 1) := by decide +kernel
theorem dX4_isMadeAsNow_9 : decode cX4_isMadeAsNow 9 = .ok (.aload_n 0, 1) := by decide +kernel
theorem dX4_isMadeAsNow_10 : decode cX4_isMadeAsNow 10 = .ok (.getfield 12, 3) := by decide +kernel
theorem dX4_isMadeAsNow_13 : decode cX4_isMadeAsNow 13 = .ok (.aload_n 1, 1) := by decide +kernel
theorem dX4_isMadeAsNow_14 : decode cX4_isMadeAsNow 14 = .ok (.getfield 103, 3) := by decide +kernel
theorem dX4_isMadeAsNow_17 : decode cX4_isMadeAsNow 17 = .ok (.getfield 145, 3) := by decide +kernel
theorem dX4_isMadeAsNow_20 : decode cX4_isMadeAsNow 20 = .ok (.aload_n 0, 1) := by decide +kernel
theorem dX4_isMadeAsNow_21 : decode cX4_isMadeAsNow 21 = .ok (.getfield 50, 3) := by decide +kernel
theorem dX4_isMadeAsNow_24 : decode cX4_isMadeAsNow 24 = .ok (.invokevirtual 278, 3) := by decide +kernel
theorem dX4_isMadeAsNow_27 : decode cX4_isMadeAsNow 27 = .ok (.istore_n 2, 1) := by decide +kernel
theorem dX4_isMadeAsNow_28 : decode cX4_isMadeAsNow 28 = .ok (.iconst 0, 1) := by decide +kernel
theorem dX4_isMadeAsNow_29 : decode cX4_isMadeAsNow 29 = .ok (.istore_n 3, 1) := by decide +kernel
theorem dX4_isMadeAsNow_30 : decode cX4_isMadeAsNow 30 = .ok (.aload_n 0, 1) := by decide +kernel
theorem dX4_isMadeAsNow_31 : decode cX4_isMadeAsNow 31 = .ok (.aload_n 1, 1) := by decide +kernel
theorem dX4_isMadeAsNow_32 : decode cX4_isMadeAsNow 32 = .ok (.invokevirtual 282, 3) := by decide +kernel
theorem dX4_isMadeAsNow_35 : decode cX4_isMadeAsNow 35 = .ok (.iconst 1, 1) := by decide +kernel
theorem dX4_isMadeAsNow_36 : decode cX4_isMadeAsNow 36 = .ok (.isub, 1) := by decide +kernel
theorem dX4_isMadeAsNow_37 : decode cX4_isMadeAsNow 37 = .ok (.istore 4, 2) := by decide +kernel
theorem dX4_isMadeAsNow_39 : decode cX4_isMadeAsNow 39 = .ok (.iload 4, 2) := by decide +kernel
theorem dX4_isMadeAsNow_41 : decode cX4_isMadeAsNow 41 = .ok (.ifCond .lt 51, 3) := by decide +kernel
theorem dX4_isMadeAsNow_44 : decode cX4_isMadeAsNow 44 = .ok (.iload 4, 2) := by decide +kernel
theorem dX4_isMadeAsNow_46 : decode cX4_isMadeAsNow 46 = .ok (.aload_n 0, 1) := by decide +kernel
theorem dX4_isMadeAsNow_47 : decode cX4_isMadeAsNow 47 = .ok (.getfield 47, 3) := by decide +kernel
theorem dX4_isMadeAsNow_50 : decode cX4_isMadeAsNow 50 = .ok (.arraylength, 1) := by decide +kernel
theorem dX4_isMadeAsNow_51 : decode cX4_isMadeAsNow 51 = .ok (.if_icmp .ge 13, 3) := by decide +kernel
theorem dX4_isMadeAsNow_54 : decode cX4_isMadeAsNow 54 = .ok (.aload_n 0, 1) := by decide +kernel
theorem dX4_isMadeAsNow_55 : decode cX4_isMadeAsNow 55 = .ok (.getfield 47, 3) := by decide +kernel
theorem dX4_isMadeAsNow_58 : decode cX4_isMadeAsNow 58 = .ok (.iload 4, 2) := by decide +kernel
theorem dX4_isMadeAsNow_60 : decode cX4_isMadeAsNow 60 = .ok (.aaload, 1) := by decide +kernel
theorem dX4_isMadeAsNow_61 : decode cX4_isMadeAsNow 61 = .ok (.goto 4, 3) := by decide +kernel
theorem dX4_isMadeAsNow_64 : decode cX4_isMadeAsNow 64 = .ok (.aconst_null, 1) := by decide +kernel
theorem dX4_isMadeAsNow_65 : decode cX4_isMadeAsNow 65 = .ok (.astore 5, 2) := by decide +kernel
theorem dX4_isMadeAsNow_67 : decode cX4_isMadeAsNow 67 = .ok (.aload 5, 2) := by decide +kernel
theorem dX4_isMadeAsNow_69 : decode cX4_isMadeAsNow 69 = .ok (.ifnonnull 8, 3) := by decide +kernel
theorem dX4_isMadeAsNow_72 : decode cX4_isMadeAsNow 72 = .ok (.bipush (-2), 2) := by decide +kernel
theorem dX4_isMadeAsNow_74 : decode cX4_isMadeAsNow 74 = .ok (.goto 11, 3) := by decide +kernel
theorem dX4_isMadeAsNow_77 : decode cX4_isMadeAsNow 77 = .ok (.aload_n 0, 1) := by decide +kernel
theorem dX4_isMadeAsNow_78 : decode cX4_isMadeAsNow 78 = .ok (.aload 5, 2) := by decide +kernel
theorem dX4_isMadeAsNow_80 : decode cX4_isMadeAsNow 80 = .ok (.iload_n 3, 1) := by decide +kernel
theorem dX4_isMadeAsNow_81 : decode cX4_isMadeAsNow 81 = .ok (.iload_n 2, 1) := by decide +kernel
theorem dX4_isMadeAsNow_82 : decode cX4_isMadeAsNow 82 = .ok (.invokevirtual 285, 3) := by decide +kernel
theorem dX4_isMadeAsNow_85 : decode cX4_isMadeAsNow 85 = .ok (.istore_n 3, 1) := by decide +kernel
theorem dX4_isMadeAsNow_86 : decode cX4_isMadeAsNow 86 = .ok (.iinc 4 (-1), 3) := by decide +kernel
theorem dX4_isMadeAsNow_89 : decode cX4_isMadeAsNow 89 = .ok (.goto (-50), 3) := by decide +kernel
theorem dX4_isMadeAsNow_92 : decode cX4_isMadeAsNow 92 = .ok (.iload_n 3, 1) := by decide +kernel
theorem dX4_isMadeAsNow_93 : decode cX4_isMadeAsNow 93 = .ok (.iload_n 2, 1) := by decide +kernel
theorem dX4_isMadeAsNow_94 : decode cX4_isMadeAsNow 94 = .ok (.if_icmp .ne 7, 3) := by decide +kernel
theorem dX4_isMadeAsNow_97 : decode cX4_isMadeAsNow 97 = .ok (.iconst 1, 1) := by decide +kernel
theorem dX4_isMadeAsNow_98 : decode cX4_isMadeAsNow 98 = .ok (.goto 4, 3) := by decide +kernel
theorem dX4_isMadeAsNow_101 : decode cX4_isMadeAsNow 101 = .ok (.iconst 0, 1) := by decide +kernel
theorem dX4_isMadeAsNow_102 : decode cX4_isMadeAsNow 102 = .ok (.ireturn, 1) := by decide +kernel
theorem dX4_fillForefathers_0 : decode cX4_fillForefathers 0 = .ok (.iconst 0, 1) := by decide +kernel
theorem dX4_fillForefathers_1 : decode cX4_fillForefathers 1 = .ok (.istore_n 2, 1) := by decide +kernel
theorem dX4_fillForefathers_2 : decode cX4_fillForefathers 2 = .ok (.aload_n 1, 1) := by decide +kernel
theorem dX4_fillForefathers_3 : decode cX4_fillForefathers 3 = .ok (.astore_n 3, 1) := by decide +kernel
theorem dX4_fillForefathers_4 : decode cX4_fillForefathers 4 = .ok (.aload_n 3, 1) := by decide +kernel
theorem dX4_fillForefathers_5 : decode cX4_fillForefathers 5 = .ok (.ifnull 30, 3) := by decide +kernel
theorem dX4_fillForefathers_8 : decode cX4_fillForefathers 8 = .ok (.iload_n 2, 1) := by decide +kernel
theorem dX4_fillForefathers_9 : decode cX4_fillForefathers 9 = .ok (.aload_n 0, 1) := by decide +kernel
theorem dX4_fillForefathers_10 : decode cX4_fillForefathers 10 = .ok (.getfield 47, 3) := by decide +kernel
theorem dX4_fillForefathers_13 : decode cX4_fillForefathers 13 = .ok (.arraylength, 1) := by decide +kernel
theorem dX4_fillForefathers_14 : decode cX4_fillForefathers 14 = .ok (.if_icmp .ge 21, 3) := by decide +kernel
theorem dX4_fillForefathers_17 : decode cX4_fillForefathers 17 = .ok (.aload_n 0, 1) := by decide +kernel
theorem dX4_fillForefathers_18 : decode cX4_fillForefathers 18 = .ok (.getfield 47, 3) := by decide +kernel
theorem dX4_fillForefathers_21 : decode cX4_fillForefathers 21 = .ok (.iload_n 2, 1) := by decide +kernel
theorem dX4_fillForefathers_22 : decode cX4_fillForefathers 22 = .ok (.aload_n 3, 1) := by decide +kernel
theorem dX4_fillForefathers_23 : decode cX4_fillForefathers 23 = .ok (.aastore, 1) := by decide +kernel
theorem dX4_fillForefathers_24 : decode cX4_fillForefathers 24 = .ok (.iinc 2 1, 3) := by decide +kernel
theorem dX4_fillForefathers_27 : decode cX4_fillForefathers 27 = .ok (.aload_n 3, 1) := by decide +kernel
theorem dX4_fillForefathers_28 : decode cX4_fillForefathers 28 = .ok (.getfield 99, 3) := by decide +kernel
theorem dX4_fillForefathers_31 : decode cX4_fillForefathers 31 = .ok (.astore_n 3, 1) := by decide +kernel
theorem dX4_fillForefathers_32 : decode cX4_fillForefathers 32 = .ok (.goto (-28), 3) := by decide +kernel
theorem dX4_fillForefathers_35 : decode cX4_fillForefathers 35 = .ok (.iload_n 2, 1) := by decide +kernel
theorem dX4_fillForefathers_36 : decode cX4_fillForefathers 36 = .ok (.ireturn, 1) := by decide +kernel
theorem dX4_followSteps_0 : decode cX4_followSteps 0 = .ok (.iload_n 2, 1) := by decide +kernel
theorem dX4_followSteps_1 : decode cX4_followSteps 1 = .ok (.ifCond .ge 6, 3) := by decide +kernel
theorem dX4_followSteps_4 : decode cX4_followSteps 4 = .ok (.bipush (-2), 2) := by decide +kernel
theorem dX4_followSteps_6 : decode cX4_followSteps 6 = .ok (.ireturn, 1) := by decide +kernel
theorem dX4_followSteps_7 : decode cX4_followSteps 7 = .ok (.iconst 0, 1) := by decide +kernel
theorem dX4_followSteps_8 : decode cX4_followSteps 8 = .ok (.istore 4, 2) := by decide +kernel
theorem dX4_followSteps_10 : decode cX4_followSteps 10 = .ok (.iload 4, 2) := by decide +kernel
theorem dX4_followSteps_12 : decode cX4_followSteps 12 = .ok (.aload_n 1, 1) := by decide +kernel
theorem dX4_followSteps_13 : decode cX4_followSteps 13 = .ok (.getfield 94, 3) := by decide +kernel
theorem dX4_followSteps_16 : decode cX4_followSteps 16 = .ok (.if_icmp .ge 63, 3) := by decide +kernel
theorem dX4_followSteps_19 : decode cX4_followSteps 19 = .ok (.aload_n 1, 1) := by decide +kernel
theorem dX4_followSteps_20 : decode cX4_followSteps 20 = .ok (.getfield 247, 3) := by decide +kernel
theorem dX4_followSteps_23 : decode cX4_followSteps 23 = .ok (.iload 4, 2) := by decide +kernel
theorem dX4_followSteps_25 : decode cX4_followSteps 25 = .ok (.invokestatic 181, 3) := by decide +kernel
theorem dX4_followSteps_28 : decode cX4_followSteps 28 = .ok (.istore 5, 2) := by decide +kernel
theorem dX4_followSteps_30 : decode cX4_followSteps 30 = .ok (.aload_n 0, 1) := by decide +kernel
theorem dX4_followSteps_31 : decode cX4_followSteps 31 = .ok (.getfield 50, 3) := by decide +kernel
theorem dX4_followSteps_34 : decode cX4_followSteps 34 = .ok (.iload_n 3, 1) := by decide +kernel
theorem dX4_followSteps_35 : decode cX4_followSteps 35 = .ok (.iconst 1, 1) := by decide +kernel
theorem dX4_followSteps_36 : decode cX4_followSteps 36 = .ok (.isub, 1) := by decide +kernel
theorem dX4_followSteps_37 : decode cX4_followSteps 37 = .ok (.iload_n 2, 1) := by decide +kernel
theorem dX4_followSteps_38 : decode cX4_followSteps 38 = .ok (.isub, 1) := by decide +kernel
theorem dX4_followSteps_39 : decode cX4_followSteps 39 = .ok (.iload 4, 2) := by decide +kernel
theorem dX4_followSteps_41 : decode cX4_followSteps 41 = .ok (.isub, 1) := by decide +kernel
theorem dX4_followSteps_42 : decode cX4_followSteps 42 = .ok (.invokestatic 181, 3) := by decide +kernel
theorem dX4_followSteps_45 : decode cX4_followSteps 45 = .ok (.istore 6, 2) := by decide +kernel
theorem dX4_followSteps_47 : decode cX4_followSteps 47 = .ok (.aload_n 0, 1) := by decide +kernel
theorem dX4_followSteps_48 : decode cX4_followSteps 48 = .ok (.getfield 12, 3) := by decide +kernel
theorem dX4_followSteps_51 : decode cX4_followSteps 51 = .ok (.iload 6, 2) := by decide +kernel
theorem dX4_followSteps_53 : decode cX4_followSteps 53 = .ok (.iload 5, 2) := by decide +kernel
theorem dX4_followSteps_55 : decode cX4_followSteps 55 = .ok (.aload_n 0, 1) := by decide +kernel
theorem dX4_followSteps_56 : decode cX4_followSteps 56 = .ok (.getfield 16, 3) := by decide +kernel
theorem dX4_followSteps_59 : decode cX4_followSteps 59 = .ok (.iload 5, 2) := by decide +kernel
theorem dX4_followSteps_61 : decode cX4_followSteps 61 = .ok (.invokestatic 181, 3) := by decide +kernel
theorem dX4_followSteps_64 : decode cX4_followSteps 64 = .ok (.invokevirtual 289, 3) := by decide +kernel
theorem dX4_followSteps_67 : decode cX4_followSteps 67 = .ok (.ifCond .ne 6, 3) := by decide +kernel
theorem dX4_followSteps_70 : decode cX4_followSteps 70 = .ok (.bipush (-2), 2) := by decide +kernel
theorem dX4_followSteps_72 : decode cX4_followSteps 72 = .ok (.ireturn, 1) := by decide +kernel
theorem dX4_followSteps_73 : decode cX4_followSteps 73 = .ok (.iinc 4 1, 3) := by decide +kernel
theorem dX4_followSteps_76 : decode cX4_followSteps 76 = .ok (.goto (-66), 3) := by decide +kernel
theorem dX4_followSteps_79 : decode cX4_followSteps 79 = .ok (.iload_n 2, 1) := by decide +kernel
theorem dX4_followSteps_80 : decode cX4_followSteps 80 = .ok (.aload_n 1, 1) := by decide +kernel
theorem dX4_followSteps_81 : decode cX4_followSteps 81 = .ok (.getfield 94, 3) := by decide +kernel
theorem dX4_followSteps_84 : decode cX4_followSteps 84 = .ok (.iadd, 1) := by decide +kernel
theorem dX4_followSteps_85 : decode cX4_followSteps 85 = .ok (.ireturn, 1) := by decide +kernel
theorem dX4_bakeAt_0 : decode cX4_bakeAt 0 = .ok (.iload_n 1, 1) := by decide +kernel
theorem dX4_bakeAt_1 : decode cX4_bakeAt 1 = .ok (.ifCond .lt 21, 3) := by decide +kernel
theorem dX4_bakeAt_4 : decode cX4_bakeAt 4 = .ok (.iload_n 1, 1) := by decide +kernel
theorem dX4_bakeAt_5 : decode cX4_bakeAt 5 = .ok (.aload_n 0, 1) := by decide +kernel
theorem dX4_bakeAt_6 : decode cX4_bakeAt 6 = .ok (.getfield 31, 3) := by decide +kernel
theorem dX4_bakeAt_9 : decode cX4_bakeAt 9 = .ok (.arraylength, 1) := by decide +kernel
theorem dX4_bakeAt_10 : decode cX4_bakeAt 10 = .ok (.if_icmp .ge 12, 3) := by decide +kernel
theorem dX4_bakeAt_13 : decode cX4_bakeAt 13 = .ok (.aload_n 0, 1) := by decide +kernel
theorem dX4_bakeAt_14 : decode cX4_bakeAt 14 = .ok (.getfield 31, 3) := by decide +kernel
theorem dX4_bakeAt_17 : decode cX4_bakeAt 17 = .ok (.iload_n 1, 1) := by decide +kernel
theorem dX4_bakeAt_18 : decode cX4_bakeAt 18 = .ok (.aaload, 1) := by decide +kernel
theorem dX4_bakeAt_19 : decode cX4_bakeAt 19 = .ok (.goto 4, 3) := by decide +kernel
theorem dX4_bakeAt_22 : decode cX4_bakeAt 22 = .ok (.aconst_null, 1) := by decide +kernel
theorem dX4_bakeAt_23 : decode cX4_bakeAt 23 = .ok (.astore_n 2, 1) := by decide +kernel
theorem dX4_bakeAt_24 : decode cX4_bakeAt 24 = .ok (.aload_n 2, 1) := by decide +kernel
theorem dX4_bakeAt_25 : decode cX4_bakeAt 25 = .ok (.ifnonnull 14, 3) := by decide +kernel
theorem dX4_bakeAt_28 : decode cX4_bakeAt 28 = .ok (.new 240, 3) := by decide +kernel
theorem dX4_bakeAt_31 : decode cX4_bakeAt 31 = .ok (.dup, 1) := by decide +kernel
theorem dX4_bakeAt_32 : decode cX4_bakeAt 32 = .ok (.ldc_w 293, 3) := by decide +kernel
theorem dX4_bakeAt_35 : decode cX4_bakeAt 35 = .ok (.invokespecial 244, 3) := by decide +kernel
theorem dX4_bakeAt_38 : decode cX4_bakeAt 38 = .ok (.athrow, 1) := by decide +kernel
theorem dX4_bakeAt_39 : decode cX4_bakeAt 39 = .ok (.aload_n 2, 1) := by decide +kernel
theorem dX4_bakeAt_40 : decode cX4_bakeAt 40 = .ok (.areturn, 1) := by decide +kernel
theorem dX4_numberOf_0 : decode cX4_numberOf 0 = .ok (.aload_n 0, 1) := by decide +kernel
theorem dX4_numberOf_1 : decode cX4_numberOf 1 = .ok (.ifnonnull 7, 3) := by decide +kernel
theorem dX4_numberOf_4 : decode cX4_numberOf 4 = .ok (.iconst (-1), 1) := by decide +kernel
theorem dX4_numberOf_5 : decode cX4_numberOf 5 = .ok (.goto 7, 3) := by decide +kernel
theorem dX4_numberOf_8 : decode cX4_numberOf 8 = .ok (.aload_n 0, 1) := by decide +kernel
theorem dX4_numberOf_9 : decode cX4_numberOf 9 = .ok (.getfield 233, 3) := by decide +kernel
theorem dX4_numberOf_12 : decode cX4_numberOf 12 = .ok (.ireturn, 1) := by decide +kernel
theorem dX4_isTooOld_0 : decode cX4_isTooOld 0 = .ok (.aload_n 0, 1) := by decide +kernel
theorem dX4_isTooOld_1 : decode cX4_isTooOld 1 = .ok (.getfield 178, 3) := by decide +kernel
theorem dX4_isTooOld_4 : decode cX4_isTooOld 4 = .ok (.aload_n 1, 1) := by decide +kernel
theorem dX4_isTooOld_5 : decode cX4_isTooOld 5 = .ok (.getfield 295, 3) := by decide +kernel
theorem dX4_isTooOld_8 : decode cX4_isTooOld 8 = .ok (.isub, 1) := by decide +kernel
theorem dX4_isTooOld_9 : decode cX4_isTooOld 9 = .ok (.aload_n 0, 1) := by decide +kernel
theorem dX4_isTooOld_10 : decode cX4_isTooOld 10 = .ok (.getfield 56, 3) := by decide +kernel
theorem dX4_isTooOld_13 : decode cX4_isTooOld 13 = .ok (.if_icmp .le 7, 3) := by decide +kernel
theorem dX4_isTooOld_16 : decode cX4_isTooOld 16 = .ok (.iconst 1, 1) := by decide +kernel
theorem dX4_isTooOld_17 : decode cX4_isTooOld 17 = .ok (.goto 4, 3) := by decide +kernel
theorem dX4_isTooOld_20 : decode cX4_isTooOld 20 = .ok (.iconst 0, 1) := by decide +kernel
theorem dX4_isTooOld_21 : decode cX4_isTooOld 21 = .ok (.ireturn, 1) := by decide +kernel
theorem dX4_mustGo_0 : decode cX4_mustGo 0 = .ok (.aload_n 1, 1) := by decide +kernel
theorem dX4_mustGo_1 : decode cX4_mustGo 1 = .ok (.getfield 148, 3) := by decide +kernel
theorem dX4_mustGo_4 : decode cX4_mustGo 4 = .ok (.ifCond .ne 31, 3) := by decide +kernel
theorem dX4_mustGo_7 : decode cX4_mustGo 7 = .ok (.aload_n 0, 1) := by decide +kernel
theorem dX4_mustGo_8 : decode cX4_mustGo 8 = .ok (.getfield 178, 3) := by decide +kernel
theorem dX4_mustGo_11 : decode cX4_mustGo 11 = .ok (.aload_n 1, 1) := by decide +kernel
theorem dX4_mustGo_12 : decode cX4_mustGo 12 = .ok (.getfield 295, 3) := by decide +kernel
theorem dX4_mustGo_15 : decode cX4_mustGo 15 = .ok (.isub, 1) := by decide +kernel
theorem dX4_mustGo_16 : decode cX4_mustGo 16 = .ok (.aload_n 0, 1) := by decide +kernel
theorem dX4_mustGo_17 : decode cX4_mustGo 17 = .ok (.getfield 60, 3) := by decide +kernel
theorem dX4_mustGo_20 : decode cX4_mustGo 20 = .ok (.if_icmp .le 15, 3) := by decide +kernel
theorem dX4_mustGo_23 : decode cX4_mustGo 23 = .ok (.aload_n 0, 1) := by decide +kernel
theorem dX4_mustGo_24 : decode cX4_mustGo 24 = .ok (.aload_n 1, 1) := by decide +kernel
theorem dX4_mustGo_25 : decode cX4_mustGo 25 = .ok (.invokevirtual 162, 3) := by decide +kernel
theorem dX4_mustGo_28 : decode cX4_mustGo 28 = .ok (.ifCond .ne 7, 3) := by decide +kernel
theorem dX4_mustGo_31 : decode cX4_mustGo 31 = .ok (.iconst 1, 1) := by decide +kernel
theorem dX4_mustGo_32 : decode cX4_mustGo 32 = .ok (.goto 4, 3) := by decide +kernel
theorem dX4_mustGo_35 : decode cX4_mustGo 35 = .ok (.iconst 0, 1) := by decide +kernel
theorem dX4_mustGo_36 : decode cX4_mustGo 36 = .ok (.ireturn, 1) := by decide +kernel
theorem dX4_countMachinesFrom_0 : decode cX4_countMachinesFrom 0 = .ok (.iconst 0, 1) := by decide +kernel
theorem dX4_countMachinesFrom_1 : decode cX4_countMachinesFrom 1 = .ok (.istore_n 2, 1) := by decide +kernel
theorem dX4_countMachinesFrom_2 : decode cX4_countMachinesFrom 2 = .ok (.aload_n 0, 1) := by decide +kernel
theorem dX4_countMachinesFrom_3 : decode cX4_countMachinesFrom 3 = .ok (.getfield 37, 3) := by decide +kernel
theorem dX4_countMachinesFrom_6 : decode cX4_countMachinesFrom 6 = .ok (.astore_n 3, 1) := by decide +kernel
theorem dX4_countMachinesFrom_7 : decode cX4_countMachinesFrom 7 = .ok (.aload_n 3, 1) := by decide +kernel
theorem dX4_countMachinesFrom_8 : decode cX4_countMachinesFrom 8 = .ok (.arraylength, 1) := by decide +kernel
theorem dX4_countMachinesFrom_9 : decode cX4_countMachinesFrom 9 = .ok (.istore 4, 2) := by decide +kernel
theorem dX4_countMachinesFrom_11 : decode cX4_countMachinesFrom 11 = .ok (.iconst 0, 1) := by decide +kernel
theorem dX4_countMachinesFrom_12 : decode cX4_countMachinesFrom 12 = .ok (.istore 5, 2) := by decide +kernel
theorem dX4_countMachinesFrom_14 : decode cX4_countMachinesFrom 14 = .ok (.iload 5, 2) := by decide +kernel
theorem dX4_countMachinesFrom_16 : decode cX4_countMachinesFrom 16 = .ok (.iload 4, 2) := by decide +kernel
theorem dX4_countMachinesFrom_18 : decode cX4_countMachinesFrom 18 = .ok (.if_icmp .ge 32, 3) := by decide +kernel
theorem dX4_countMachinesFrom_21 : decode cX4_countMachinesFrom 21 = .ok (.aload_n 3, 1) := by decide +kernel
theorem dX4_countMachinesFrom_22 : decode cX4_countMachinesFrom 22 = .ok (.iload 5, 2) := by decide +kernel
theorem dX4_countMachinesFrom_24 : decode cX4_countMachinesFrom 24 = .ok (.aaload, 1) := by decide +kernel
theorem dX4_countMachinesFrom_25 : decode cX4_countMachinesFrom 25 = .ok (.astore 6, 2) := by decide +kernel
theorem dX4_countMachinesFrom_27 : decode cX4_countMachinesFrom 27 = .ok (.aload 6, 2) := by decide +kernel
theorem dX4_countMachinesFrom_29 : decode cX4_countMachinesFrom 29 = .ok (.ifnull 15, 3) := by decide +kernel
theorem dX4_countMachinesFrom_32 : decode cX4_countMachinesFrom 32 = .ok (.aload 6, 2) := by decide +kernel
theorem dX4_countMachinesFrom_34 : decode cX4_countMachinesFrom 34 = .ok (.getfield 230, 3) := by decide +kernel
theorem dX4_countMachinesFrom_37 : decode cX4_countMachinesFrom 37 = .ok (.aload_n 1, 1) := by decide +kernel
theorem dX4_countMachinesFrom_38 : decode cX4_countMachinesFrom 38 = .ok (.if_acmp .ne 6, 3) := by decide +kernel
theorem dX4_countMachinesFrom_41 : decode cX4_countMachinesFrom 41 = .ok (.iinc 2 1, 3) := by decide +kernel
theorem dX4_countMachinesFrom_44 : decode cX4_countMachinesFrom 44 = .ok (.iinc 5 1, 3) := by decide +kernel
theorem dX4_countMachinesFrom_47 : decode cX4_countMachinesFrom 47 = .ok (.goto (-33), 3) := by decide +kernel
theorem dX4_countMachinesFrom_50 : decode cX4_countMachinesFrom 50 = .ok (.iload_n 2, 1) := by decide +kernel
theorem dX4_countMachinesFrom_51 : decode cX4_countMachinesFrom 51 = .ok (.ireturn, 1) := by decide +kernel
theorem dX4_machineAt_0 : decode cX4_machineAt 0 = .ok (.iload_n 1, 1) := by decide +kernel
theorem dX4_machineAt_1 : decode cX4_machineAt 1 = .ok (.ifCond .lt 21, 3) := by decide +kernel
theorem dX4_machineAt_4 : decode cX4_machineAt 4 = .ok (.iload_n 1, 1) := by decide +kernel
theorem dX4_machineAt_5 : decode cX4_machineAt 5 = .ok (.aload_n 0, 1) := by decide +kernel
theorem dX4_machineAt_6 : decode cX4_machineAt 6 = .ok (.getfield 37, 3) := by decide +kernel
theorem dX4_machineAt_9 : decode cX4_machineAt 9 = .ok (.arraylength, 1) := by decide +kernel
theorem dX4_machineAt_10 : decode cX4_machineAt 10 = .ok (.if_icmp .ge 12, 3) := by decide +kernel
theorem dX4_machineAt_13 : decode cX4_machineAt 13 = .ok (.aload_n 0, 1) := by decide +kernel
theorem dX4_machineAt_14 : decode cX4_machineAt 14 = .ok (.getfield 37, 3) := by decide +kernel
theorem dX4_machineAt_17 : decode cX4_machineAt 17 = .ok (.iload_n 1, 1) := by decide +kernel
theorem dX4_machineAt_18 : decode cX4_machineAt 18 = .ok (.aaload, 1) := by decide +kernel
theorem dX4_machineAt_19 : decode cX4_machineAt 19 = .ok (.goto 4, 3) := by decide +kernel
theorem dX4_machineAt_22 : decode cX4_machineAt 22 = .ok (.aconst_null, 1) := by decide +kernel
theorem dX4_machineAt_23 : decode cX4_machineAt 23 = .ok (.astore_n 2, 1) := by decide +kernel
theorem dX4_machineAt_24 : decode cX4_machineAt 24 = .ok (.aload_n 2, 1) := by decide +kernel
theorem dX4_machineAt_25 : decode cX4_machineAt 25 = .ok (.ifnonnull 14, 3) := by decide +kernel
theorem dX4_machineAt_28 : decode cX4_machineAt 28 = .ok (.new 240, 3) := by decide +kernel
theorem dX4_machineAt_31 : decode cX4_machineAt 31 = .ok (.dup, 1) := by decide +kernel
theorem dX4_machineAt_32 : decode cX4_machineAt 32 = .ok (.ldc_w 298, 3) := by decide +kernel
theorem dX4_machineAt_35 : decode cX4_machineAt 35 = .ok (.invokespecial 244, 3) := by decide +kernel
theorem dX4_machineAt_38 : decode cX4_machineAt 38 = .ok (.athrow, 1) := by decide +kernel
theorem dX4_machineAt_39 : decode cX4_machineAt 39 = .ok (.aload_n 2, 1) := by decide +kernel
theorem dX4_machineAt_40 : decode cX4_machineAt 40 = .ok (.areturn, 1) := by decide +kernel
theorem dX4_runningAt_0 : decode cX4_runningAt 0 = .ok (.aload_n 0, 1) := by decide +kernel
theorem dX4_runningAt_1 : decode cX4_runningAt 1 = .ok (.iload_n 1, 1) := by decide +kernel
theorem dX4_runningAt_2 : decode cX4_runningAt 2 = .ok (.invokevirtual 234, 3) := by decide +kernel
theorem dX4_runningAt_5 : decode cX4_runningAt 5 = .ok (.astore_n 2, 1) := by decide +kernel
theorem dX4_runningAt_6 : decode cX4_runningAt 6 = .ok (.aload_n 2, 1) := by decide +kernel
theorem dX4_runningAt_7 : decode cX4_runningAt 7 = .ok (.getfield 230, 3) := by decide +kernel
theorem dX4_runningAt_10 : decode cX4_runningAt 10 = .ok (.ifnonnull 14, 3) := by decide +kernel
theorem dX4_runningAt_13 : decode cX4_runningAt 13 = .ok (.new 240, 3) := by decide +kernel
theorem dX4_runningAt_16 : decode cX4_runningAt 16 = .ok (.dup, 1) := by decide +kernel
theorem dX4_runningAt_17 : decode cX4_runningAt 17 = .ok (.ldc_w 300, 3) := by decide +kernel
theorem dX4_runningAt_20 : decode cX4_runningAt 20 = .ok (.invokespecial 244, 3) := by decide +kernel
theorem dX4_runningAt_23 : decode cX4_runningAt 23 = .ok (.athrow, 1) := by decide +kernel
theorem dX4_runningAt_24 : decode cX4_runningAt 24 = .ok (.aload_n 2, 1) := by decide +kernel
theorem dX4_runningAt_25 : decode cX4_runningAt 25 = .ok (.areturn, 1) := by decide +kernel
theorem dX4_bakeFor_0 : decode cX4_bakeFor 0 = .ok (.aload_n 0, 1) := by decide +kernel
theorem dX4_bakeFor_1 : decode cX4_bakeFor 1 = .ok (.getfield 31, 3) := by decide +kernel
theorem dX4_bakeFor_4 : decode cX4_bakeFor 4 = .ok (.arraylength, 1) := by decide +kernel
theorem dX4_bakeFor_5 : decode cX4_bakeFor 5 = .ok (.iconst 1, 1) := by decide +kernel
theorem dX4_bakeFor_6 : decode cX4_bakeFor 6 = .ok (.isub, 1) := by decide +kernel
theorem dX4_bakeFor_7 : decode cX4_bakeFor 7 = .ok (.istore 4, 2) := by decide +kernel
theorem dX4_bakeFor_9 : decode cX4_bakeFor 9 = .ok (.iload 4, 2) := by decide +kernel
theorem dX4_bakeFor_11 : decode cX4_bakeFor 11 = .ok (.ifCond .lt 46, 3) := by decide +kernel
theorem dX4_bakeFor_14 : decode cX4_bakeFor 14 = .ok (.aload_n 0, 1) := by decide +kernel
theorem dX4_bakeFor_15 : decode cX4_bakeFor 15 = .ok (.getfield 31, 3) := by decide +kernel
theorem dX4_bakeFor_18 : decode cX4_bakeFor 18 = .ok (.iload 4, 2) := by decide +kernel
theorem dX4_bakeFor_20 : decode cX4_bakeFor 20 = .ok (.aaload, 1) := by decide +kernel
theorem dX4_bakeFor_21 : decode cX4_bakeFor 21 = .ok (.astore 5, 2) := by decide +kernel
theorem dX4_bakeFor_23 : decode cX4_bakeFor 23 = .ok (.aload 5, 2) := by decide +kernel
theorem dX4_bakeFor_25 : decode cX4_bakeFor 25 = .ok (.ifnull 26, 3) := by decide +kernel
theorem dX4_bakeFor_28 : decode cX4_bakeFor 28 = .ok (.aload 5, 2) := by decide +kernel
theorem dX4_bakeFor_30 : decode cX4_bakeFor 30 = .ok (.getfield 302, 3) := by decide +kernel
theorem dX4_bakeFor_33 : decode cX4_bakeFor 33 = .ok (.aload_n 1, 1) := by decide +kernel
theorem dX4_bakeFor_34 : decode cX4_bakeFor 34 = .ok (.if_acmp .ne 17, 3) := by decide +kernel
theorem dX4_bakeFor_37 : decode cX4_bakeFor 37 = .ok (.aload_n 0, 1) := by decide +kernel
theorem dX4_bakeFor_38 : decode cX4_bakeFor 38 = .ok (.aload 5, 2) := by decide +kernel
theorem dX4_bakeFor_40 : decode cX4_bakeFor 40 = .ok (.iload_n 2, 1) := by decide +kernel
theorem dX4_bakeFor_41 : decode cX4_bakeFor 41 = .ok (.iload_n 3, 1) := by decide +kernel
theorem dX4_bakeFor_42 : decode cX4_bakeFor 42 = .ok (.invokevirtual 303, 3) := by decide +kernel
theorem dX4_bakeFor_45 : decode cX4_bakeFor 45 = .ok (.ifCond .eq 6, 3) := by decide +kernel
theorem dX4_bakeFor_48 : decode cX4_bakeFor 48 = .ok (.aload 5, 2) := by decide +kernel
theorem dX4_bakeFor_50 : decode cX4_bakeFor 50 = .ok (.areturn, 1) := by decide +kernel
end
section
/-! decode rows (printed), 2 -/
theorem dX4_bakeFor_51 : decode cX4_bakeFor 51 = .ok (.iinc 4 (-1), 3) := by decide +kernel
theorem dX4_bakeFor_54 : decode cX4_bakeFor 54 = .ok (.goto (-45), 3) := by decide +kernel
theorem dX4_bakeFor_57 : decode cX4_bakeFor 57 = .ok (.aconst_null, 1) := by decide +kernel
theorem dX4_bakeFor_58 : decode cX4_bakeFor 58 = .ok (.areturn, 1) := by decide +kernel
theorem dX4_canStart_0 : decode cX4_canStart 0 = .ok (.aload_n 1, 1) := by decide +kernel
theorem dX4_canStart_1 : decode cX4_canStart 1 = .ok (.iload_n 2, 1) := by decide +kernel
theorem dX4_canStart_2 : decode cX4_canStart 2 = .ok (.invokevirtual 172, 3) := by decide +kernel
theorem dX4_canStart_5 : decode cX4_canStart 5 = .ok (.istore 4, 2) := by decide +kernel
theorem dX4_canStart_7 : decode cX4_canStart 7 = .ok (.iload 4, 2) := by decide +kernel
theorem dX4_canStart_9 : decode cX4_canStart 9 = .ok (.iconst (-1), 1) := by decide +kernel
theorem dX4_canStart_10 : decode cX4_canStart 10 = .ok (.if_icmp .eq 16, 3) := by decide +kernel
theorem dX4_canStart_13 : decode cX4_canStart 13 = .ok (.iload 4, 2) := by decide +kernel
theorem dX4_canStart_15 : decode cX4_canStart 15 = .ok (.aload_n 0, 1) := by decide +kernel
theorem dX4_canStart_16 : decode cX4_canStart 16 = .ok (.getfield 178, 3) := by decide +kernel
theorem dX4_canStart_19 : decode cX4_canStart 19 = .ok (.if_icmp .gt 7, 3) := by decide +kernel
theorem dX4_canStart_22 : decode cX4_canStart 22 = .ok (.iconst 1, 1) := by decide +kernel
theorem dX4_canStart_23 : decode cX4_canStart 23 = .ok (.goto 4, 3) := by decide +kernel
theorem dX4_canStart_26 : decode cX4_canStart 26 = .ok (.iconst 0, 1) := by decide +kernel
theorem dX4_canStart_27 : decode cX4_canStart 27 = .ok (.istore 5, 2) := by decide +kernel
theorem dX4_canStart_29 : decode cX4_canStart 29 = .ok (.iload 5, 2) := by decide +kernel
theorem dX4_canStart_31 : decode cX4_canStart 31 = .ok (.ifCond .eq 37, 3) := by decide +kernel
theorem dX4_canStart_34 : decode cX4_canStart 34 = .ok (.aload_n 1, 1) := by decide +kernel
theorem dX4_canStart_35 : decode cX4_canStart 35 = .ok (.getfield 157, 3) := by decide +kernel
theorem dX4_canStart_38 : decode cX4_canStart 38 = .ok (.ifCond .ne 30, 3) := by decide +kernel
theorem dX4_canStart_41 : decode cX4_canStart 41 = .ok (.aload_n 1, 1) := by decide +kernel
theorem dX4_canStart_42 : decode cX4_canStart 42 = .ok (.getfield 148, 3) := by decide +kernel
theorem dX4_canStart_45 : decode cX4_canStart 45 = .ok (.ifCond .ne 23, 3) := by decide +kernel
theorem dX4_canStart_48 : decode cX4_canStart 48 = .ok (.aload_n 0, 1) := by decide +kernel
theorem dX4_canStart_49 : decode cX4_canStart 49 = .ok (.aload_n 1, 1) := by decide +kernel
theorem dX4_canStart_50 : decode cX4_canStart 50 = .ok (.invokevirtual 199, 3) := by decide +kernel
theorem dX4_canStart_53 : decode cX4_canStart 53 = .ok (.ifCond .ne 15, 3) := by decide +kernel
theorem dX4_canStart_56 : decode cX4_canStart 56 = .ok (.aload_n 1, 1) := by decide +kernel
theorem dX4_canStart_57 : decode cX4_canStart 57 = .ok (.getfield 165, 3) := by decide +kernel
theorem dX4_canStart_60 : decode cX4_canStart 60 = .ok (.iload_n 3, 1) := by decide +kernel
theorem dX4_canStart_61 : decode cX4_canStart 61 = .ok (.if_icmp .lt 7, 3) := by decide +kernel
theorem dX4_canStart_64 : decode cX4_canStart 64 = .ok (.iconst 1, 1) := by decide +kernel
theorem dX4_canStart_65 : decode cX4_canStart 65 = .ok (.goto 4, 3) := by decide +kernel
theorem dX4_canStart_68 : decode cX4_canStart 68 = .ok (.iconst 0, 1) := by decide +kernel
theorem dX4_canStart_69 : decode cX4_canStart 69 = .ok (.ireturn, 1) := by decide +kernel
theorem dX4_mustRenew_0 : decode cX4_mustRenew 0 = .ok (.aload_n 1, 1) := by decide +kernel
theorem dX4_mustRenew_1 : decode cX4_mustRenew 1 = .ok (.getfield 230, 3) := by decide +kernel
theorem dX4_mustRenew_4 : decode cX4_mustRenew 4 = .ok (.ifnonnull 5, 3) := by decide +kernel
theorem dX4_mustRenew_7 : decode cX4_mustRenew 7 = .ok (.iconst 0, 1) := by decide +kernel
theorem dX4_mustRenew_8 : decode cX4_mustRenew 8 = .ok (.ireturn, 1) := by decide +kernel
theorem dX4_mustRenew_9 : decode cX4_mustRenew 9 = .ok (.aload_n 1, 1) := by decide +kernel
theorem dX4_mustRenew_10 : decode cX4_mustRenew 10 = .ok (.getfield 230, 3) := by decide +kernel
theorem dX4_mustRenew_13 : decode cX4_mustRenew 13 = .ok (.getfield 157, 3) := by decide +kernel
theorem dX4_mustRenew_16 : decode cX4_mustRenew 16 = .ok (.ifCond .ne 14, 3) := by decide +kernel
theorem dX4_mustRenew_19 : decode cX4_mustRenew 19 = .ok (.aload_n 0, 1) := by decide +kernel
theorem dX4_mustRenew_20 : decode cX4_mustRenew 20 = .ok (.aload_n 1, 1) := by decide +kernel
theorem dX4_mustRenew_21 : decode cX4_mustRenew 21 = .ok (.getfield 230, 3) := by decide +kernel
theorem dX4_mustRenew_24 : decode cX4_mustRenew 24 = .ok (.invokevirtual 199, 3) := by decide +kernel
theorem dX4_mustRenew_27 : decode cX4_mustRenew 27 = .ok (.ifCond .eq 5, 3) := by decide +kernel
theorem dX4_mustRenew_30 : decode cX4_mustRenew 30 = .ok (.iconst 1, 1) := by decide +kernel
theorem dX4_mustRenew_31 : decode cX4_mustRenew 31 = .ok (.ireturn, 1) := by decide +kernel
theorem dX4_mustRenew_32 : decode cX4_mustRenew 32 = .ok (.aload_n 0, 1) := by decide +kernel
theorem dX4_mustRenew_33 : decode cX4_mustRenew 33 = .ok (.aload_n 1, 1) := by decide +kernel
theorem dX4_mustRenew_34 : decode cX4_mustRenew 34 = .ok (.getfield 221, 3) := by decide +kernel
theorem dX4_mustRenew_37 : decode cX4_mustRenew 37 = .ok (.aload_n 1, 1) := by decide +kernel
theorem dX4_mustRenew_38 : decode cX4_mustRenew 38 = .ok (.getfield 224, 3) := by decide +kernel
theorem dX4_mustRenew_41 : decode cX4_mustRenew 41 = .ok (.aload_n 1, 1) := by decide +kernel
theorem dX4_mustRenew_42 : decode cX4_mustRenew 42 = .ok (.getfield 227, 3) := by decide +kernel
theorem dX4_mustRenew_45 : decode cX4_mustRenew 45 = .ok (.invokevirtual 204, 3) := by decide +kernel
theorem dX4_mustRenew_48 : decode cX4_mustRenew 48 = .ok (.astore_n 2, 1) := by decide +kernel
theorem dX4_mustRenew_49 : decode cX4_mustRenew 49 = .ok (.aload_n 2, 1) := by decide +kernel
theorem dX4_mustRenew_50 : decode cX4_mustRenew 50 = .ok (.ifnull 15, 3) := by decide +kernel
theorem dX4_mustRenew_53 : decode cX4_mustRenew 53 = .ok (.aload_n 2, 1) := by decide +kernel
theorem dX4_mustRenew_54 : decode cX4_mustRenew 54 = .ok (.aload_n 1, 1) := by decide +kernel
theorem dX4_mustRenew_55 : decode cX4_mustRenew 55 = .ok (.getfield 230, 3) := by decide +kernel
theorem dX4_mustRenew_58 : decode cX4_mustRenew 58 = .ok (.if_acmp .eq 7, 3) := by decide +kernel
theorem dX4_mustRenew_61 : decode cX4_mustRenew 61 = .ok (.iconst 1, 1) := by decide +kernel
theorem dX4_mustRenew_62 : decode cX4_mustRenew 62 = .ok (.goto 4, 3) := by decide +kernel
theorem dX4_mustRenew_65 : decode cX4_mustRenew 65 = .ok (.iconst 0, 1) := by decide +kernel
theorem dX4_mustRenew_66 : decode cX4_mustRenew 66 = .ok (.ireturn, 1) := by decide +kernel
theorem dX4_fillWaiting_0 : decode cX4_fillWaiting 0 = .ok (.iconst 0, 1) := by decide +kernel
theorem dX4_fillWaiting_1 : decode cX4_fillWaiting 1 = .ok (.istore_n 1, 1) := by decide +kernel
theorem dX4_fillWaiting_2 : decode cX4_fillWaiting 2 = .ok (.aload_n 0, 1) := by decide +kernel
theorem dX4_fillWaiting_3 : decode cX4_fillWaiting 3 = .ok (.getfield 37, 3) := by decide +kernel
theorem dX4_fillWaiting_6 : decode cX4_fillWaiting 6 = .ok (.astore_n 2, 1) := by decide +kernel
theorem dX4_fillWaiting_7 : decode cX4_fillWaiting 7 = .ok (.aload_n 2, 1) := by decide +kernel
theorem dX4_fillWaiting_8 : decode cX4_fillWaiting 8 = .ok (.arraylength, 1) := by decide +kernel
theorem dX4_fillWaiting_9 : decode cX4_fillWaiting 9 = .ok (.istore_n 3, 1) := by decide +kernel
theorem dX4_fillWaiting_10 : decode cX4_fillWaiting 10 = .ok (.iconst 0, 1) := by decide +kernel
theorem dX4_fillWaiting_11 : decode cX4_fillWaiting 11 = .ok (.istore 4, 2) := by decide +kernel
theorem dX4_fillWaiting_13 : decode cX4_fillWaiting 13 = .ok (.iload 4, 2) := by decide +kernel
theorem dX4_fillWaiting_15 : decode cX4_fillWaiting 15 = .ok (.iload_n 3, 1) := by decide +kernel
theorem dX4_fillWaiting_16 : decode cX4_fillWaiting 16 = .ok (.if_icmp .ge 39, 3) := by decide +kernel
theorem dX4_fillWaiting_19 : decode cX4_fillWaiting 19 = .ok (.aload_n 2, 1) := by decide +kernel
theorem dX4_fillWaiting_20 : decode cX4_fillWaiting 20 = .ok (.iload 4, 2) := by decide +kernel
theorem dX4_fillWaiting_22 : decode cX4_fillWaiting 22 = .ok (.aaload, 1) := by decide +kernel
theorem dX4_fillWaiting_23 : decode cX4_fillWaiting 23 = .ok (.astore 5, 2) := by decide +kernel
theorem dX4_fillWaiting_25 : decode cX4_fillWaiting 25 = .ok (.aload 5, 2) := by decide +kernel
theorem dX4_fillWaiting_27 : decode cX4_fillWaiting 27 = .ok (.ifnull 22, 3) := by decide +kernel
theorem dX4_fillWaiting_30 : decode cX4_fillWaiting 30 = .ok (.aload_n 0, 1) := by decide +kernel
theorem dX4_fillWaiting_31 : decode cX4_fillWaiting 31 = .ok (.aload 5, 2) := by decide +kernel
theorem dX4_fillWaiting_33 : decode cX4_fillWaiting 33 = .ok (.invokevirtual 307, 3) := by decide +kernel
theorem dX4_fillWaiting_36 : decode cX4_fillWaiting 36 = .ok (.ifCond .eq 13, 3) := by decide +kernel
theorem dX4_fillWaiting_39 : decode cX4_fillWaiting 39 = .ok (.aload_n 0, 1) := by decide +kernel
theorem dX4_fillWaiting_40 : decode cX4_fillWaiting 40 = .ok (.aload 5, 2) := by decide +kernel
theorem dX4_fillWaiting_42 : decode cX4_fillWaiting 42 = .ok (.iload_n 1, 1) := by decide +kernel
theorem dX4_fillWaiting_43 : decode cX4_fillWaiting 43 = .ok (.invokevirtual 311, 3) := by decide +kernel
theorem dX4_fillWaiting_46 : decode cX4_fillWaiting 46 = .ok (.iinc 1 1, 3) := by decide +kernel
theorem dX4_fillWaiting_49 : decode cX4_fillWaiting 49 = .ok (.iinc 4 1, 3) := by decide +kernel
theorem dX4_fillWaiting_52 : decode cX4_fillWaiting 52 = .ok (.goto (-39), 3) := by decide +kernel
theorem dX4_fillWaiting_55 : decode cX4_fillWaiting 55 = .ok (.iload_n 1, 1) := by decide +kernel
theorem dX4_fillWaiting_56 : decode cX4_fillWaiting 56 = .ok (.ireturn, 1) := by decide +kernel
theorem dX4_insertWaiting_0 : decode cX4_insertWaiting 0 = .ok (.iload_n 2, 1) := by decide +kernel
theorem dX4_insertWaiting_1 : decode cX4_insertWaiting 1 = .ok (.istore_n 3, 1) := by decide +kernel
theorem dX4_insertWaiting_2 : decode cX4_insertWaiting 2 = .ok (.iload_n 3, 1) := by decide +kernel
theorem dX4_insertWaiting_3 : decode cX4_insertWaiting 3 = .ok (.ifCond .le 50, 3) := by decide +kernel
theorem dX4_insertWaiting_6 : decode cX4_insertWaiting 6 = .ok (.iload_n 3, 1) := by decide +kernel
theorem dX4_insertWaiting_7 : decode cX4_insertWaiting 7 = .ok (.aload_n 0, 1) := by decide +kernel
theorem dX4_insertWaiting_8 : decode cX4_insertWaiting 8 = .ok (.getfield 53, 3) := by decide +kernel
theorem dX4_insertWaiting_11 : decode cX4_insertWaiting 11 = .ok (.arraylength, 1) := by decide +kernel
theorem dX4_insertWaiting_12 : decode cX4_insertWaiting 12 = .ok (.if_icmp .ge 41, 3) := by decide +kernel
theorem dX4_insertWaiting_15 : decode cX4_insertWaiting 15 = .ok (.aload_n 1, 1) := by decide +kernel
theorem dX4_insertWaiting_16 : decode cX4_insertWaiting 16 = .ok (.getfield 230, 3) := by decide +kernel
theorem dX4_insertWaiting_19 : decode cX4_insertWaiting 19 = .ok (.aload_n 0, 1) := by decide +kernel
theorem dX4_insertWaiting_20 : decode cX4_insertWaiting 20 = .ok (.getfield 53, 3) := by decide +kernel
theorem dX4_insertWaiting_23 : decode cX4_insertWaiting 23 = .ok (.iload_n 3, 1) := by decide +kernel
theorem dX4_insertWaiting_24 : decode cX4_insertWaiting 24 = .ok (.iconst 1, 1) := by decide +kernel
theorem dX4_insertWaiting_25 : decode cX4_insertWaiting 25 = .ok (.isub, 1) := by decide +kernel
theorem dX4_insertWaiting_26 : decode cX4_insertWaiting 26 = .ok (.aaload, 1) := by decide +kernel
theorem dX4_insertWaiting_27 : decode cX4_insertWaiting 27 = .ok (.invokestatic 315, 3) := by decide +kernel
theorem dX4_insertWaiting_30 : decode cX4_insertWaiting 30 = .ok (.ifCond .eq 23, 3) := by decide +kernel
theorem dX4_insertWaiting_33 : decode cX4_insertWaiting 33 = .ok (.aload_n 0, 1) := by decide +kernel
theorem dX4_insertWaiting_34 : decode cX4_insertWaiting 34 = .ok (.getfield 53, 3) := by decide +kernel
theorem dX4_insertWaiting_37 : decode cX4_insertWaiting 37 = .ok (.iload_n 3, 1) := by decide +kernel
theorem dX4_insertWaiting_38 : decode cX4_insertWaiting 38 = .ok (.aload_n 0, 1) := by decide +kernel
theorem dX4_insertWaiting_39 : decode cX4_insertWaiting 39 = .ok (.getfield 53, 3) := by decide +kernel
theorem dX4_insertWaiting_42 : decode cX4_insertWaiting 42 = .ok (.iload_n 3, 1) := by decide +kernel
theorem dX4_insertWaiting_43 : decode cX4_insertWaiting 43 = .ok (.iconst 1, 1) := by decide +kernel
theorem dX4_insertWaiting_44 : decode cX4_insertWaiting 44 = .ok (.isub, 1) := by decide +kernel
theorem dX4_insertWaiting_45 : decode cX4_insertWaiting 45 = .ok (.aaload, 1) := by decide +kernel
theorem dX4_insertWaiting_46 : decode cX4_insertWaiting 46 = .ok (.aastore, 1) := by decide +kernel
theorem dX4_insertWaiting_47 : decode cX4_insertWaiting 47 = .ok (.iinc 3 (-1), 3) := by decide +kernel
theorem dX4_insertWaiting_50 : decode cX4_insertWaiting 50 = .ok (.goto (-48), 3) := by decide +kernel
theorem dX4_insertWaiting_53 : decode cX4_insertWaiting 53 = .ok (.iload_n 3, 1) := by decide +kernel
theorem dX4_insertWaiting_54 : decode cX4_insertWaiting 54 = .ok (.ifCond .lt 19, 3) := by decide +kernel
theorem dX4_insertWaiting_57 : decode cX4_insertWaiting 57 = .ok (.iload_n 3, 1) := by decide +kernel
theorem dX4_insertWaiting_58 : decode cX4_insertWaiting 58 = .ok (.aload_n 0, 1) := by decide +kernel
theorem dX4_insertWaiting_59 : decode cX4_insertWaiting 59 = .ok (.getfield 53, 3) := by decide +kernel
theorem dX4_insertWaiting_62 : decode cX4_insertWaiting 62 = .ok (.arraylength, 1) := by decide +kernel
theorem dX4_insertWaiting_63 : decode cX4_insertWaiting 63 = .ok (.if_icmp .ge 10, 3) := by decide +kernel
theorem dX4_insertWaiting_66 : decode cX4_insertWaiting 66 = .ok (.aload_n 0, 1) := by decide +kernel
theorem dX4_insertWaiting_67 : decode cX4_insertWaiting 67 = .ok (.getfield 53, 3) := by decide +kernel
theorem dX4_insertWaiting_70 : decode cX4_insertWaiting 70 = .ok (.iload_n 3, 1) := by decide +kernel
theorem dX4_insertWaiting_71 : decode cX4_insertWaiting 71 = .ok (.aload_n 1, 1) := by decide +kernel
theorem dX4_insertWaiting_72 : decode cX4_insertWaiting 72 = .ok (.aastore, 1) := by decide +kernel
theorem dX4_insertWaiting_73 : decode cX4_insertWaiting 73 = .ok (.return_, 1) := by decide +kernel
theorem dX4_isAhead_0 : decode cX4_isAhead 0 = .ok (.aload_n 0, 1) := by decide +kernel
theorem dX4_isAhead_1 : decode cX4_isAhead 1 = .ok (.ifnull 14, 3) := by decide +kernel
theorem dX4_isAhead_4 : decode cX4_isAhead 4 = .ok (.aload_n 1, 1) := by decide +kernel
theorem dX4_isAhead_5 : decode cX4_isAhead 5 = .ok (.ifnull 10, 3) := by decide +kernel
theorem dX4_isAhead_8 : decode cX4_isAhead 8 = .ok (.aload_n 1, 1) := by decide +kernel
theorem dX4_isAhead_9 : decode cX4_isAhead 9 = .ok (.getfield 230, 3) := by decide +kernel
theorem dX4_isAhead_12 : decode cX4_isAhead 12 = .ok (.ifnonnull 5, 3) := by decide +kernel
theorem dX4_isAhead_15 : decode cX4_isAhead 15 = .ok (.iconst 0, 1) := by decide +kernel
theorem dX4_isAhead_16 : decode cX4_isAhead 16 = .ok (.ireturn, 1) := by decide +kernel
theorem dX4_isAhead_17 : decode cX4_isAhead 17 = .ok (.aload_n 0, 1) := by decide +kernel
theorem dX4_isAhead_18 : decode cX4_isAhead 18 = .ok (.getfield 157, 3) := by decide +kernel
theorem dX4_isAhead_21 : decode cX4_isAhead 21 = .ok (.aload_n 1, 1) := by decide +kernel
theorem dX4_isAhead_22 : decode cX4_isAhead 22 = .ok (.getfield 230, 3) := by decide +kernel
theorem dX4_isAhead_25 : decode cX4_isAhead 25 = .ok (.getfield 157, 3) := by decide +kernel
theorem dX4_isAhead_28 : decode cX4_isAhead 28 = .ok (.if_icmp .eq 8, 3) := by decide +kernel
theorem dX4_isAhead_31 : decode cX4_isAhead 31 = .ok (.aload_n 0, 1) := by decide +kernel
theorem dX4_isAhead_32 : decode cX4_isAhead 32 = .ok (.getfield 157, 3) := by decide +kernel
theorem dX4_isAhead_35 : decode cX4_isAhead 35 = .ok (.ireturn, 1) := by decide +kernel
theorem dX4_isAhead_36 : decode cX4_isAhead 36 = .ok (.aload_n 0, 1) := by decide +kernel
theorem dX4_isAhead_37 : decode cX4_isAhead 37 = .ok (.getfield 295, 3) := by decide +kernel
theorem dX4_isAhead_40 : decode cX4_isAhead 40 = .ok (.aload_n 1, 1) := by decide +kernel
theorem dX4_isAhead_41 : decode cX4_isAhead 41 = .ok (.getfield 230, 3) := by decide +kernel
theorem dX4_isAhead_44 : decode cX4_isAhead 44 = .ok (.getfield 295, 3) := by decide +kernel
theorem dX4_isAhead_47 : decode cX4_isAhead 47 = .ok (.if_icmp .ge 7, 3) := by decide +kernel
theorem dX4_isAhead_50 : decode cX4_isAhead 50 = .ok (.iconst 1, 1) := by decide +kernel
theorem dX4_isAhead_51 : decode cX4_isAhead 51 = .ok (.goto 4, 3) := by decide +kernel
theorem dX4_isAhead_54 : decode cX4_isAhead 54 = .ok (.iconst 0, 1) := by decide +kernel
theorem dX4_isAhead_55 : decode cX4_isAhead 55 = .ok (.ireturn, 1) := by decide +kernel
theorem dX4_at_0 : decode cX4_at 0 = .ok (.iload_n 1, 1) := by decide +kernel
theorem dX4_at_1 : decode cX4_at 1 = .ok (.ifCond .lt 15, 3) := by decide +kernel
theorem dX4_at_4 : decode cX4_at 4 = .ok (.iload_n 1, 1) := by decide +kernel
theorem dX4_at_5 : decode cX4_at 5 = .ok (.aload_n 0, 1) := by decide +kernel
theorem dX4_at_6 : decode cX4_at 6 = .ok (.arraylength, 1) := by decide +kernel
theorem dX4_at_7 : decode cX4_at 7 = .ok (.if_icmp .ge 9, 3) := by decide +kernel
theorem dX4_at_10 : decode cX4_at 10 = .ok (.aload_n 0, 1) := by decide +kernel
theorem dX4_at_11 : decode cX4_at 11 = .ok (.iload_n 1, 1) := by decide +kernel
theorem dX4_at_12 : decode cX4_at 12 = .ok (.iaload, 1) := by decide +kernel
theorem dX4_at_13 : decode cX4_at 13 = .ok (.goto 4, 3) := by decide +kernel
theorem dX4_at_16 : decode cX4_at 16 = .ok (.iconst (-1), 1) := by decide +kernel
theorem dX4_at_17 : decode cX4_at 17 = .ok (.ireturn, 1) := by decide +kernel
theorem dX5_init_0 : decode cX5_init 0 = .ok (.aload_n 0, 1) := by decide +kernel
theorem dX5_init_1 : decode cX5_init 1 = .ok (.invokespecial 1, 3) := by decide +kernel
theorem dX5_init_4 : decode cX5_init 4 = .ok (.aload_n 0, 1) := by decide +kernel
theorem dX5_init_5 : decode cX5_init 5 = .ok (.bipush 10, 2) := by decide +kernel
theorem dX5_init_7 : decode cX5_init 7 = .ok (.newarray .int, 2) := by decide +kernel
theorem dX5_init_9 : decode cX5_init 9 = .ok (.putfield 7, 3) := by decide +kernel
theorem dX5_init_12 : decode cX5_init 12 = .ok (.aload_n 0, 1) := by decide +kernel
theorem dX5_init_13 : decode cX5_init 13 = .ok (.bipush 10, 2) := by decide +kernel
theorem dX5_init_15 : decode cX5_init 15 = .ok (.newarray .int, 2) := by decide +kernel
theorem dX5_init_17 : decode cX5_init 17 = .ok (.putfield 13, 3) := by decide +kernel
theorem dX5_init_20 : decode cX5_init 20 = .ok (.aload_n 0, 1) := by decide +kernel
theorem dX5_init_21 : decode cX5_init 21 = .ok (.bipush 10, 2) := by decide +kernel
theorem dX5_init_23 : decode cX5_init 23 = .ok (.newarray .int, 2) := by decide +kernel
theorem dX5_init_25 : decode cX5_init 25 = .ok (.putfield 16, 3) := by decide +kernel
theorem dX5_init_28 : decode cX5_init 28 = .ok (.aload_n 0, 1) := by decide +kernel
theorem dX5_init_29 : decode cX5_init 29 = .ok (.bipush 50, 2) := by decide +kernel
theorem dX5_init_31 : decode cX5_init 31 = .ok (.newarray .int, 2) := by decide +kernel
theorem dX5_init_33 : decode cX5_init 33 = .ok (.putfield 19, 3) := by decide +kernel
theorem dX5_init_36 : decode cX5_init 36 = .ok (.aload_n 0, 1) := by decide +kernel
theorem dX5_init_37 : decode cX5_init 37 = .ok (.bipush 10, 2) := by decide +kernel
theorem dX5_init_39 : decode cX5_init 39 = .ok (.newarray .int, 2) := by decide +kernel
theorem dX5_init_41 : decode cX5_init 41 = .ok (.putfield 22, 3) := by decide +kernel
theorem dX5_init_44 : decode cX5_init 44 = .ok (.aload_n 0, 1) := by decide +kernel
theorem dX5_init_45 : decode cX5_init 45 = .ok (.bipush 10, 2) := by decide +kernel
theorem dX5_init_47 : decode cX5_init 47 = .ok (.newarray .int, 2) := by decide +kernel
theorem dX5_init_49 : decode cX5_init 49 = .ok (.putfield 25, 3) := by decide +kernel
theorem dX5_init_52 : decode cX5_init 52 = .ok (.aload_n 0, 1) := by decide +kernel
theorem dX5_init_53 : decode cX5_init 53 = .ok (.sipush 300, 3) := by decide +kernel
theorem dX5_init_56 : decode cX5_init 56 = .ok (.newarray .int, 2) := by decide +kernel
theorem dX5_init_58 : decode cX5_init 58 = .ok (.putfield 28, 3) := by decide +kernel
theorem dX5_init_61 : decode cX5_init 61 = .ok (.aload_n 0, 1) := by decide +kernel
theorem dX5_init_62 : decode cX5_init 62 = .ok (.sipush 300, 3) := by decide +kernel
theorem dX5_init_65 : decode cX5_init 65 = .ok (.newarray .int, 2) := by decide +kernel
theorem dX5_init_67 : decode cX5_init 67 = .ok (.putfield 31, 3) := by decide +kernel
theorem dX5_init_70 : decode cX5_init 70 = .ok (.aload_n 0, 1) := by decide +kernel
theorem dX5_init_71 : decode cX5_init 71 = .ok (.sipush 300, 3) := by decide +kernel
theorem dX5_init_74 : decode cX5_init 74 = .ok (.newarray .int, 2) := by decide +kernel
theorem dX5_init_76 : decode cX5_init 76 = .ok (.putfield 34, 3) := by decide +kernel
theorem dX5_init_79 : decode cX5_init 79 = .ok (.aload_n 0, 1) := by decide +kernel
theorem dX5_init_80 : decode cX5_init 80 = .ok (.bipush 60, 2) := by decide +kernel
theorem dX5_init_82 : decode cX5_init 82 = .ok (.newarray .int, 2) := by decide +kernel
theorem dX5_init_84 : decode cX5_init 84 = .ok (.putfield 37, 3) := by decide +kernel
theorem dX5_init_87 : decode cX5_init 87 = .ok (.aload_n 0, 1) := by decide +kernel
theorem dX5_init_88 : decode cX5_init 88 = .ok (.bipush 60, 2) := by decide +kernel
theorem dX5_init_90 : decode cX5_init 90 = .ok (.newarray .int, 2) := by decide +kernel
theorem dX5_init_92 : decode cX5_init 92 = .ok (.putfield 40, 3) := by decide +kernel
theorem dX5_init_95 : decode cX5_init 95 = .ok (.aload_n 0, 1) := by decide +kernel
theorem dX5_init_96 : decode cX5_init 96 = .ok (.bipush 60, 2) := by decide +kernel
theorem dX5_init_98 : decode cX5_init 98 = .ok (.newarray .int, 2) := by decide +kernel
theorem dX5_init_100 : decode cX5_init 100 = .ok (.putfield 43, 3) := by decide +kernel
theorem dX5_init_103 : decode cX5_init 103 = .ok (.aload_n 0, 1) := by decide +kernel
theorem dX5_init_104 : decode cX5_init 104 = .ok (.bipush 60, 2) := by decide +kernel
theorem dX5_init_106 : decode cX5_init 106 = .ok (.newarray .int, 2) := by decide +kernel
theorem dX5_init_108 : decode cX5_init 108 = .ok (.putfield 46, 3) := by decide +kernel
theorem dX5_init_111 : decode cX5_init 111 = .ok (.aload_n 0, 1) := by decide +kernel
theorem dX5_init_112 : decode cX5_init 112 = .ok (.bipush 60, 2) := by decide +kernel
theorem dX5_init_114 : decode cX5_init 114 = .ok (.newarray .boolean, 2) := by decide +kernel
theorem dX5_init_116 : decode cX5_init 116 = .ok (.putfield 49, 3) := by decide +kernel
theorem dX5_init_119 : decode cX5_init 119 = .ok (.aload_n 0, 1) := by decide +kernel
theorem dX5_init_120 : decode cX5_init 120 = .ok (.bipush 60, 2) := by decide +kernel
theorem dX5_init_122 : decode cX5_init 122 = .ok (.newarray .boolean, 2) := by decide +kernel
theorem dX5_init_124 : decode cX5_init 124 = .ok (.putfield 53, 3) := by decide +kernel
theorem dX5_init_127 : decode cX5_init 127 = .ok (.aload_n 0, 1) := by decide +kernel
theorem dX5_init_128 : decode cX5_init 128 = .ok (.bipush 60, 2) := by decide +kernel
theorem dX5_init_130 : decode cX5_init 130 = .ok (.newarray .boolean, 2) := by decide +kernel
theorem dX5_init_132 : decode cX5_init 132 = .ok (.putfield 56, 3) := by decide +kernel
theorem dX5_init_135 : decode cX5_init 135 = .ok (.aload_n 0, 1) := by decide +kernel
theorem dX5_init_136 : decode cX5_init 136 = .ok (.sipush 180, 3) := by decide +kernel
theorem dX5_init_139 : decode cX5_init 139 = .ok (.newarray .int, 2) := by decide +kernel
theorem dX5_init_141 : decode cX5_init 141 = .ok (.putfield 59, 3) := by decide +kernel
theorem dX5_init_144 : decode cX5_init 144 = .ok (.aload_n 0, 1) := by decide +kernel
theorem dX5_init_145 : decode cX5_init 145 = .ok (.iconst 3, 1) := by decide +kernel
theorem dX5_init_146 : decode cX5_init 146 = .ok (.newarray .int, 2) := by decide +kernel
theorem dX5_init_148 : decode cX5_init 148 = .ok (.putfield 62, 3) := by decide +kernel
theorem dX5_init_151 : decode cX5_init 151 = .ok (.aload_n 0, 1) := by decide +kernel
theorem dX5_init_152 : decode cX5_init 152 = .ok (.bipush 10, 2) := by decide +kernel
theorem dX5_init_154 : decode cX5_init 154 = .ok (.putfield 65, 3) := by decide +kernel
theorem dX5_init_157 : decode cX5_init 157 = .ok (.aload_n 0, 1) := by decide +kernel
theorem dX5_init_158 : decode cX5_init 158 = .ok (.bipush 20, 2) := by decide +kernel
theorem dX5_init_160 : decode cX5_init 160 = .ok (.putfield 69, 3) := by decide +kernel
theorem dX5_init_163 : decode cX5_init 163 = .ok (.aload_n 0, 1) := by decide +kernel
theorem dX5_init_164 : decode cX5_init 164 = .ok (.bipush 30, 2) := by decide +kernel
theorem dX5_init_166 : decode cX5_init 166 = .ok (.newarray .int, 2) := by decide +kernel
theorem dX5_init_168 : decode cX5_init 168 = .ok (.putfield 72, 3) := by decide +kernel
theorem dX5_init_171 : decode cX5_init 171 = .ok (.aload_n 0, 1) := by decide +kernel
theorem dX5_init_172 : decode cX5_init 172 = .ok (.bipush 30, 2) := by decide +kernel
theorem dX5_init_174 : decode cX5_init 174 = .ok (.newarray .int, 2) := by decide +kernel
theorem dX5_init_176 : decode cX5_init 176 = .ok (.putfield 75, 3) := by decide +kernel
theorem dX5_init_179 : decode cX5_init 179 = .ok (.aload_n 0, 1) := by decide +kernel
theorem dX5_init_180 : decode cX5_init 180 = .ok (.bipush 30, 2) := by decide +kernel
theorem dX5_init_182 : decode cX5_init 182 = .ok (.newarray .int, 2) := by decide +kernel
theorem dX5_init_184 : decode cX5_init 184 = .ok (.putfield 78, 3) := by decide +kernel
theorem dX5_init_187 : decode cX5_init 187 = .ok (.aload_n 0, 1) := by decide +kernel
theorem dX5_init_188 : decode cX5_init 188 = .ok (.bipush 30, 2) := by decide +kernel
theorem dX5_init_190 : decode cX5_init 190 = .ok (.newarray .int, 2) := by decide +kernel
theorem dX5_init_192 : decode cX5_init 192 = .ok (.putfield 81, 3) := by decide +kernel
theorem dX5_init_195 : decode cX5_init 195 = .ok (.aload_n 0, 1) := by decide +kernel
theorem dX5_init_196 : decode cX5_init 196 = .ok (.bipush 10, 2) := by decide +kernel
theorem dX5_init_198 : decode cX5_init 198 = .ok (.newarray .int, 2) := by decide +kernel
theorem dX5_init_200 : decode cX5_init 200 = .ok (.putfield 84, 3) := by decide +kernel
theorem dX5_init_203 : decode cX5_init 203 = .ok (.aload_n 0, 1) := by decide +kernel
theorem dX5_init_204 : decode cX5_init 204 = .ok (.bipush 10, 2) := by decide +kernel
theorem dX5_init_206 : decode cX5_init 206 = .ok (.newarray .int, 2) := by decide +kernel
theorem dX5_init_208 : decode cX5_init 208 = .ok (.putfield 87, 3) := by decide +kernel
theorem dX5_init_211 : decode cX5_init 211 = .ok (.iconst 0, 1) := by decide +kernel
theorem dX5_init_212 : decode cX5_init 212 = .ok (.istore_n 1, 1) := by decide +kernel
theorem dX5_init_213 : decode cX5_init 213 = .ok (.iload_n 1, 1) := by decide +kernel
theorem dX5_init_214 : decode cX5_init 214 = .ok (.iconst 3, 1) := by decide +kernel
theorem dX5_init_215 : decode cX5_init 215 = .ok (.if_icmp .ge 16, 3) := by decide +kernel
theorem dX5_init_218 : decode cX5_init 218 = .ok (.aload_n 0, 1) := by decide +kernel
theorem dX5_init_219 : decode cX5_init 219 = .ok (.getfield 62, 3) := by decide +kernel
theorem dX5_init_222 : decode cX5_init 222 = .ok (.iload_n 1, 1) := by decide +kernel
theorem dX5_init_223 : decode cX5_init 223 = .ok (.iconst 1, 1) := by decide +kernel
theorem dX5_init_224 : decode cX5_init 224 = .ok (.iastore, 1) := by decide +kernel
theorem dX5_init_225 : decode cX5_init 225 = .ok (.iinc 1 1, 3) := by decide +kernel
theorem dX5_init_228 : decode cX5_init 228 = .ok (.goto (-15), 3) := by decide +kernel
theorem dX5_init_231 : decode cX5_init 231 = .ok (.return_, 1) := by decide +kernel
theorem dX5_thrown_0 : decode cX5_thrown 0 = .ok (.aload_n 0, 1) := by decide +kernel
theorem dX5_thrown_1 : decode cX5_thrown 1 = .ok (.getfield 90, 3) := by decide +kernel
theorem dX5_thrown_4 : decode cX5_thrown 4 = .ok (.ireturn, 1) := by decide +kernel
theorem dX5_isFine_0 : decode cX5_isFine 0 = .ok (.aload_n 0, 1) := by decide +kernel
theorem dX5_isFine_1 : decode cX5_isFine 1 = .ok (.iload_n 1, 1) := by decide +kernel
theorem dX5_isFine_2 : decode cX5_isFine 2 = .ok (.putfield 90, 3) := by decide +kernel
theorem dX5_isFine_5 : decode cX5_isFine 5 = .ok (.iload_n 1, 1) := by decide +kernel
theorem dX5_isFine_6 : decode cX5_isFine 6 = .ok (.ifCond .ne 7, 3) := by decide +kernel
theorem dX5_isFine_9 : decode cX5_isFine 9 = .ok (.iconst 1, 1) := by decide +kernel
theorem dX5_isFine_10 : decode cX5_isFine 10 = .ok (.goto 4, 3) := by decide +kernel
theorem dX5_isFine_13 : decode cX5_isFine 13 = .ok (.iconst 0, 1) := by decide +kernel
theorem dX5_isFine_14 : decode cX5_isFine 14 = .ok (.ireturn, 1) := by decide +kernel
theorem dX5_isIn_0 : decode cX5_isIn 0 = .ok (.iload_n 0, 1) := by decide +kernel
theorem dX5_isIn_1 : decode cX5_isIn 1 = .ok (.iload_n 1, 1) := by decide +kernel
theorem dX5_isIn_2 : decode cX5_isIn 2 = .ok (.if_icmp .lt 12, 3) := by decide +kernel
theorem dX5_isIn_5 : decode cX5_isIn 5 = .ok (.iload_n 0, 1) := by decide +kernel
theorem dX5_isIn_6 : decode cX5_isIn 6 = .ok (.iload_n 2, 1) := by decide +kernel
theorem dX5_isIn_7 : decode cX5_isIn 7 = .ok (.if_icmp .gt 7, 3) := by decide +kernel
theorem dX5_isIn_10 : decode cX5_isIn 10 = .ok (.iconst 1, 1) := by decide +kernel
theorem dX5_isIn_11 : decode cX5_isIn 11 = .ok (.goto 4, 3) := by decide +kernel
theorem dX5_isIn_14 : decode cX5_isIn 14 = .ok (.iconst 0, 1) := by decide +kernel
theorem dX5_isIn_15 : decode cX5_isIn 15 = .ok (.ireturn, 1) := by decide +kernel
theorem dX5_isImage_0 : decode cX5_isImage 0 = .ok (.iload_n 1, 1) := by decide +kernel
theorem dX5_isImage_1 : decode cX5_isImage 1 = .ok (.iconst 0, 1) := by decide +kernel
theorem dX5_isImage_2 : decode cX5_isImage 2 = .ok (.aload_n 0, 1) := by decide +kernel
theorem dX5_isImage_3 : decode cX5_isImage 3 = .ok (.getfield 93, 3) := by decide +kernel
theorem dX5_isImage_6 : decode cX5_isImage 6 = .ok (.iconst 1, 1) := by decide +kernel
theorem dX5_isImage_7 : decode cX5_isImage 7 = .ok (.isub, 1) := by decide +kernel
theorem dX5_isImage_8 : decode cX5_isImage 8 = .ok (.invokestatic 96, 3) := by decide +kernel
theorem dX5_isImage_11 : decode cX5_isImage 11 = .ok (.ireturn, 1) := by decide +kernel
theorem dX5_isBake_0 : decode cX5_isBake 0 = .ok (.iload_n 1, 1) := by decide +kernel
theorem dX5_isBake_1 : decode cX5_isBake 1 = .ok (.iconst 0, 1) := by decide +kernel
theorem dX5_isBake_2 : decode cX5_isBake 2 = .ok (.aload_n 0, 1) := by decide +kernel
theorem dX5_isBake_3 : decode cX5_isBake 3 = .ok (.getfield 100, 3) := by decide +kernel
theorem dX5_isBake_6 : decode cX5_isBake 6 = .ok (.iconst 1, 1) := by decide +kernel
theorem dX5_isBake_7 : decode cX5_isBake 7 = .ok (.isub, 1) := by decide +kernel
theorem dX5_isBake_8 : decode cX5_isBake 8 = .ok (.invokestatic 96, 3) := by decide +kernel
theorem dX5_isBake_11 : decode cX5_isBake 11 = .ok (.ireturn, 1) := by decide +kernel
theorem dX5_add_0 : decode cX5_add 0 = .ok (.aload_n 0, 1) := by decide +kernel
theorem dX5_add_1 : decode cX5_add 1 = .ok (.iload_n 1, 1) := by decide +kernel
theorem dX5_add_2 : decode cX5_add 2 = .ok (.iconst (-1), 1) := by decide +kernel
theorem dX5_add_3 : decode cX5_add 3 = .ok (.aload_n 0, 1) := by decide +kernel
theorem dX5_add_4 : decode cX5_add 4 = .ok (.getfield 93, 3) := by decide +kernel
theorem dX5_add_7 : decode cX5_add 7 = .ok (.iconst 1, 1) := by decide +kernel
theorem dX5_add_8 : decode cX5_add 8 = .ok (.isub, 1) := by decide +kernel
theorem dX5_add_9 : decode cX5_add 9 = .ok (.invokestatic 96, 3) := by decide +kernel
theorem dX5_add_12 : decode cX5_add 12 = .ok (.ifCond .ne 7, 3) := by decide +kernel
theorem dX5_add_15 : decode cX5_add 15 = .ok (.iconst 1, 1) := by decide +kernel
theorem dX5_add_16 : decode cX5_add 16 = .ok (.goto 17, 3) := by decide +kernel
theorem dX5_add_19 : decode cX5_add 19 = .ok (.aload_n 0, 1) := by decide +kernel
theorem dX5_add_20 : decode cX5_add 20 = .ok (.getfield 93, 3) := by decide +kernel
theorem dX5_add_23 : decode cX5_add 23 = .ok (.bipush 10, 2) := by decide +kernel
theorem dX5_add_25 : decode cX5_add 25 = .ok (.if_icmp .ne 7, 3) := by decide +kernel
theorem dX5_add_28 : decode cX5_add 28 = .ok (.iconst 2, 1) := by decide +kernel
theorem dX5_add_29 : decode cX5_add 29 = .ok (.goto 4, 3) := by decide +kernel
theorem dX5_add_32 : decode cX5_add 32 = .ok (.iconst 0, 1) := by decide +kernel
theorem dX5_add_33 : decode cX5_add 33 = .ok (.invokevirtual 103, 3) := by decide +kernel
theorem dX5_add_36 : decode cX5_add 36 = .ok (.ifCond .ne 5, 3) := by decide +kernel
theorem dX5_add_39 : decode cX5_add 39 = .ok (.iconst 0, 1) := by decide +kernel
theorem dX5_add_40 : decode cX5_add 40 = .ok (.ireturn, 1) := by decide +kernel
theorem dX5_add_41 : decode cX5_add 41 = .ok (.aload_n 0, 1) := by decide +kernel
theorem dX5_add_42 : decode cX5_add 42 = .ok (.getfield 16, 3) := by decide +kernel
theorem dX5_add_45 : decode cX5_add 45 = .ok (.aload_n 0, 1) := by decide +kernel
theorem dX5_add_46 : decode cX5_add 46 = .ok (.getfield 93, 3) := by decide +kernel
theorem dX5_add_49 : decode cX5_add 49 = .ok (.iload_n 1, 1) := by decide +kernel
theorem dX5_add_50 : decode cX5_add 50 = .ok (.iastore, 1) := by decide +kernel
theorem dX5_add_51 : decode cX5_add 51 = .ok (.aload_n 0, 1) := by decide +kernel
theorem dX5_add_52 : decode cX5_add 52 = .ok (.getfield 25, 3) := by decide +kernel
theorem dX5_add_55 : decode cX5_add 55 = .ok (.aload_n 0, 1) := by decide +kernel
theorem dX5_add_56 : decode cX5_add 56 = .ok (.getfield 93, 3) := by decide +kernel
theorem dX5_add_59 : decode cX5_add 59 = .ok (.iconst (-1), 1) := by decide +kernel
theorem dX5_add_60 : decode cX5_add 60 = .ok (.iastore, 1) := by decide +kernel
theorem dX5_add_61 : decode cX5_add 61 = .ok (.aload_n 0, 1) := by decide +kernel
theorem dX5_add_62 : decode cX5_add 62 = .ok (.dup, 1) := by decide +kernel
theorem dX5_add_63 : decode cX5_add 63 = .ok (.getfield 93, 3) := by decide +kernel
theorem dX5_add_66 : decode cX5_add 66 = .ok (.iconst 1, 1) := by decide +kernel
theorem dX5_add_67 : decode cX5_add 67 = .ok (.iadd, 1) := by decide +kernel
theorem dX5_add_68 : decode cX5_add 68 = .ok (.putfield 93, 3) := by decide +kernel
theorem dX5_add_71 : decode cX5_add 71 = .ok (.aload_n 0, 1) := by decide +kernel
theorem dX5_add_72 : decode cX5_add 72 = .ok (.getfield 93, 3) := by decide +kernel
theorem dX5_add_75 : decode cX5_add 75 = .ok (.iconst 1, 1) := by decide +kernel
theorem dX5_add_76 : decode cX5_add 76 = .ok (.isub, 1) := by decide +kernel
theorem dX5_add_77 : decode cX5_add 77 = .ok (.ireturn, 1) := by decide +kernel
theorem dX5_step_0 : decode cX5_step 0 = .ok (.aload_n 0, 1) := by decide +kernel
theorem dX5_step_1 : decode cX5_step 1 = .ok (.iload_n 1, 1) := by decide +kernel
theorem dX5_step_2 : decode cX5_step 2 = .ok (.invokevirtual 107, 3) := by decide +kernel
theorem dX5_step_5 : decode cX5_step 5 = .ok (.istore_n 3, 1) := by decide +kernel
theorem dX5_step_6 : decode cX5_step 6 = .ok (.aload_n 0, 1) := by decide +kernel
theorem dX5_step_7 : decode cX5_step 7 = .ok (.iload_n 3, 1) := by decide +kernel
theorem dX5_step_8 : decode cX5_step 8 = .ok (.ifCond .ne 7, 3) := by decide +kernel
theorem dX5_step_11 : decode cX5_step 11 = .ok (.iconst 1, 1) := by decide +kernel
theorem dX5_step_12 : decode cX5_step 12 = .ok (.goto 32, 3) := by decide +kernel
theorem dX5_step_15 : decode cX5_step 15 = .ok (.iload_n 2, 1) := by decide +kernel
theorem dX5_step_16 : decode cX5_step 16 = .ok (.iconst 0, 1) := by decide +kernel
theorem dX5_step_17 : decode cX5_step 17 = .ok (.bipush 9, 2) := by decide +kernel
theorem dX5_step_19 : decode cX5_step 19 = .ok (.invokestatic 96, 3) := by decide +kernel
theorem dX5_step_22 : decode cX5_step 22 = .ok (.ifCond .ne 7, 3) := by decide +kernel
theorem dX5_step_25 : decode cX5_step 25 = .ok (.iconst 2, 1) := by decide +kernel
theorem dX5_step_26 : decode cX5_step 26 = .ok (.goto 18, 3) := by decide +kernel
theorem dX5_step_29 : decode cX5_step 29 = .ok (.aload_n 0, 1) := by decide +kernel
theorem dX5_step_30 : decode cX5_step 30 = .ok (.getfield 22, 3) := by decide +kernel
theorem dX5_step_33 : decode cX5_step 33 = .ok (.iload_n 1, 1) := by decide +kernel
theorem dX5_step_34 : decode cX5_step 34 = .ok (.iaload, 1) := by decide +kernel
theorem dX5_step_35 : decode cX5_step 35 = .ok (.iconst 5, 1) := by decide +kernel
theorem dX5_step_36 : decode cX5_step 36 = .ok (.if_icmp .ne 7, 3) := by decide +kernel
theorem dX5_step_39 : decode cX5_step 39 = .ok (.iconst 3, 1) := by decide +kernel
theorem dX5_step_40 : decode cX5_step 40 = .ok (.goto 4, 3) := by decide +kernel
theorem dX5_step_43 : decode cX5_step 43 = .ok (.iconst 0, 1) := by decide +kernel
theorem dX5_step_44 : decode cX5_step 44 = .ok (.invokevirtual 103, 3) := by decide +kernel
theorem dX5_step_47 : decode cX5_step 47 = .ok (.ifCond .ne 5, 3) := by decide +kernel
theorem dX5_step_50 : decode cX5_step 50 = .ok (.iconst 0, 1) := by decide +kernel
theorem dX5_step_51 : decode cX5_step 51 = .ok (.ireturn, 1) := by decide +kernel
theorem dX5_step_52 : decode cX5_step 52 = .ok (.aload_n 0, 1) := by decide +kernel
theorem dX5_step_53 : decode cX5_step 53 = .ok (.getfield 19, 3) := by decide +kernel
theorem dX5_step_56 : decode cX5_step 56 = .ok (.iconst 5, 1) := by decide +kernel
theorem dX5_step_57 : decode cX5_step 57 = .ok (.iload_n 1, 1) := by decide +kernel
theorem dX5_step_58 : decode cX5_step 58 = .ok (.imul, 1) := by decide +kernel
theorem dX5_step_59 : decode cX5_step 59 = .ok (.aload_n 0, 1) := by decide +kernel
theorem dX5_step_60 : decode cX5_step 60 = .ok (.getfield 22, 3) := by decide +kernel
theorem dX5_step_63 : decode cX5_step 63 = .ok (.iload_n 1, 1) := by decide +kernel
theorem dX5_step_64 : decode cX5_step 64 = .ok (.iaload, 1) := by decide +kernel
theorem dX5_step_65 : decode cX5_step 65 = .ok (.iadd, 1) := by decide +kernel
theorem dX5_step_66 : decode cX5_step 66 = .ok (.iload_n 2, 1) := by decide +kernel
theorem dX5_step_67 : decode cX5_step 67 = .ok (.iastore, 1) := by decide +kernel
theorem dX5_step_68 : decode cX5_step 68 = .ok (.aload_n 0, 1) := by decide +kernel
theorem dX5_step_69 : decode cX5_step 69 = .ok (.getfield 22, 3) := by decide +kernel
theorem dX5_step_72 : decode cX5_step 72 = .ok (.iload_n 1, 1) := by decide +kernel
theorem dX5_step_73 : decode cX5_step 73 = .ok (.dup2, 1) := by decide +kernel
theorem dX5_step_74 : decode cX5_step 74 = .ok (.iaload, 1) := by decide +kernel
theorem dX5_step_75 : decode cX5_step 75 = .ok (.iconst 1, 1) := by decide +kernel
theorem dX5_step_76 : decode cX5_step 76 = .ok (.iadd, 1) := by decide +kernel
theorem dX5_step_77 : decode cX5_step 77 = .ok (.iastore, 1) := by decide +kernel
theorem dX5_step_78 : decode cX5_step 78 = .ok (.aload_n 0, 1) := by decide +kernel
theorem dX5_step_79 : decode cX5_step 79 = .ok (.getfield 22, 3) := by decide +kernel
theorem dX5_step_82 : decode cX5_step 82 = .ok (.iload_n 1, 1) := by decide +kernel
theorem dX5_step_83 : decode cX5_step 83 = .ok (.iaload, 1) := by decide +kernel
theorem dX5_step_84 : decode cX5_step 84 = .ok (.ireturn, 1) := by decide +kernel
theorem dX5_change_0 : decode cX5_change 0 = .ok (.iload_n 1, 1) := by decide +kernel
theorem dX5_change_1 : decode cX5_change 1 = .ok (.iconst 0, 1) := by decide +kernel
theorem dX5_change_2 : decode cX5_change 2 = .ok (.bipush 9, 2) := by decide +kernel
theorem dX5_change_4 : decode cX5_change 4 = .ok (.invokestatic 96, 3) := by decide +kernel
theorem dX5_change_7 : decode cX5_change 7 = .ok (.ifCond .eq 28, 3) := by decide +kernel
theorem dX5_change_10 : decode cX5_change 10 = .ok (.iload_n 2, 1) := by decide +kernel
theorem dX5_change_11 : decode cX5_change 11 = .ok (.iconst (-1), 1) := by decide +kernel
theorem dX5_change_12 : decode cX5_change 12 = .ok (.if_icmp .eq 19, 3) := by decide +kernel
theorem dX5_change_15 : decode cX5_change 15 = .ok (.iload_n 2, 1) := by decide +kernel
theorem dX5_change_16 : decode cX5_change 16 = .ok (.iconst 0, 1) := by decide +kernel
theorem dX5_change_17 : decode cX5_change 17 = .ok (.aload_n 0, 1) := by decide +kernel
theorem dX5_change_18 : decode cX5_change 18 = .ok (.getfield 13, 3) := by decide +kernel
theorem dX5_change_21 : decode cX5_change 21 = .ok (.iload_n 1, 1) := by decide +kernel
theorem dX5_change_22 : decode cX5_change 22 = .ok (.iaload, 1) := by decide +kernel
theorem dX5_change_23 : decode cX5_change 23 = .ok (.iconst 1, 1) := by decide +kernel
theorem dX5_change_24 : decode cX5_change 24 = .ok (.isub, 1) := by decide +kernel
theorem dX5_change_25 : decode cX5_change 25 = .ok (.invokestatic 96, 3) := by decide +kernel
theorem dX5_change_28 : decode cX5_change 28 = .ok (.ifCond .eq 7, 3) := by decide +kernel
theorem dX5_change_31 : decode cX5_change 31 = .ok (.iconst 1, 1) := by decide +kernel
theorem dX5_change_32 : decode cX5_change 32 = .ok (.goto 4, 3) := by decide +kernel
theorem dX5_change_35 : decode cX5_change 35 = .ok (.iconst 0, 1) := by decide +kernel
theorem dX5_change_36 : decode cX5_change 36 = .ok (.istore_n 3, 1) := by decide +kernel
theorem dX5_change_37 : decode cX5_change 37 = .ok (.aload_n 0, 1) := by decide +kernel
theorem dX5_change_38 : decode cX5_change 38 = .ok (.iload_n 3, 1) := by decide +kernel
theorem dX5_change_39 : decode cX5_change 39 = .ok (.ifCond .eq 7, 3) := by decide +kernel
theorem dX5_change_42 : decode cX5_change 42 = .ok (.iconst 0, 1) := by decide +kernel
theorem dX5_change_43 : decode cX5_change 43 = .ok (.goto 4, 3) := by decide +kernel
theorem dX5_change_46 : decode cX5_change 46 = .ok (.iconst 1, 1) := by decide +kernel
theorem dX5_change_47 : decode cX5_change 47 = .ok (.invokevirtual 103, 3) := by decide +kernel
theorem dX5_change_50 : decode cX5_change 50 = .ok (.ifCond .ne 5, 3) := by decide +kernel
theorem dX5_change_53 : decode cX5_change 53 = .ok (.iconst 0, 1) := by decide +kernel
theorem dX5_change_54 : decode cX5_change 54 = .ok (.ireturn, 1) := by decide +kernel
theorem dX5_change_55 : decode cX5_change 55 = .ok (.aload_n 0, 1) := by decide +kernel
theorem dX5_change_56 : decode cX5_change 56 = .ok (.getfield 13, 3) := by decide +kernel
theorem dX5_change_59 : decode cX5_change 59 = .ok (.iload_n 1, 1) := by decide +kernel
theorem dX5_change_60 : decode cX5_change 60 = .ok (.dup2, 1) := by decide +kernel
theorem dX5_change_61 : decode cX5_change 61 = .ok (.iaload, 1) := by decide +kernel
theorem dX5_change_62 : decode cX5_change 62 = .ok (.iload_n 2, 1) := by decide +kernel
theorem dX5_change_63 : decode cX5_change 63 = .ok (.iconst (-1), 1) := by decide +kernel
theorem dX5_change_64 : decode cX5_change 64 = .ok (.if_icmp .ne 7, 3) := by decide +kernel
theorem dX5_change_67 : decode cX5_change 67 = .ok (.iconst 1, 1) := by decide +kernel
theorem dX5_change_68 : decode cX5_change 68 = .ok (.goto 4, 3) := by decide +kernel
theorem dX5_change_71 : decode cX5_change 71 = .ok (.iconst 0, 1) := by decide +kernel
theorem dX5_change_72 : decode cX5_change 72 = .ok (.iadd, 1) := by decide +kernel
theorem dX5_change_73 : decode cX5_change 73 = .ok (.iastore, 1) := by decide +kernel
theorem dX5_change_74 : decode cX5_change 74 = .ok (.aload_n 0, 1) := by decide +kernel
theorem dX5_change_75 : decode cX5_change 75 = .ok (.getfield 7, 3) := by decide +kernel
theorem dX5_change_78 : decode cX5_change 78 = .ok (.iload_n 1, 1) := by decide +kernel
theorem dX5_change_79 : decode cX5_change 79 = .ok (.iload_n 2, 1) := by decide +kernel
theorem dX5_change_80 : decode cX5_change 80 = .ok (.iconst (-1), 1) := by decide +kernel
theorem dX5_change_81 : decode cX5_change 81 = .ok (.if_icmp .ne 12, 3) := by decide +kernel
theorem dX5_change_84 : decode cX5_change 84 = .ok (.aload_n 0, 1) := by decide +kernel
theorem dX5_change_85 : decode cX5_change 85 = .ok (.getfield 13, 3) := by decide +kernel
theorem dX5_change_88 : decode cX5_change 88 = .ok (.iload_n 1, 1) := by decide +kernel
theorem dX5_change_89 : decode cX5_change 89 = .ok (.iaload, 1) := by decide +kernel
theorem dX5_change_90 : decode cX5_change 90 = .ok (.goto 4, 3) := by decide +kernel
theorem dX5_change_93 : decode cX5_change 93 = .ok (.iload_n 2, 1) := by decide +kernel
theorem dX5_change_94 : decode cX5_change 94 = .ok (.iastore, 1) := by decide +kernel
theorem dX5_change_95 : decode cX5_change 95 = .ok (.aload_n 0, 1) := by decide +kernel
theorem dX5_change_96 : decode cX5_change 96 = .ok (.getfield 7, 3) := by decide +kernel
theorem dX5_change_99 : decode cX5_change 99 = .ok (.iload_n 1, 1) := by decide +kernel
theorem dX5_change_100 : decode cX5_change 100 = .ok (.iaload, 1) := by decide +kernel
theorem dX5_change_101 : decode cX5_change 101 = .ok (.ireturn, 1) := by decide +kernel
theorem dX5_find_0 : decode cX5_find 0 = .ok (.iconst 0, 1) := by decide +kernel
theorem dX5_find_1 : decode cX5_find 1 = .ok (.istore 4, 2) := by decide +kernel
theorem dX5_find_3 : decode cX5_find 3 = .ok (.iload 4, 2) := by decide +kernel
theorem dX5_find_5 : decode cX5_find 5 = .ok (.aload_n 0, 1) := by decide +kernel
theorem dX5_find_6 : decode cX5_find 6 = .ok (.getfield 110, 3) := by decide +kernel
theorem dX5_find_9 : decode cX5_find 9 = .ok (.if_icmp .ge 45, 3) := by decide +kernel
theorem dX5_find_12 : decode cX5_find 12 = .ok (.aload_n 0, 1) := by decide +kernel
theorem dX5_find_13 : decode cX5_find 13 = .ok (.getfield 28, 3) := by decide +kernel
theorem dX5_find_16 : decode cX5_find 16 = .ok (.iload 4, 2) := by decide +kernel
theorem dX5_find_18 : decode cX5_find 18 = .ok (.iaload, 1) := by decide +kernel
theorem dX5_find_19 : decode cX5_find 19 = .ok (.iload_n 1, 1) := by decide +kernel
theorem dX5_find_20 : decode cX5_find 20 = .ok (.if_icmp .ne 28, 3) := by decide +kernel
theorem dX5_find_23 : decode cX5_find 23 = .ok (.aload_n 0, 1) := by decide +kernel
theorem dX5_find_24 : decode cX5_find 24 = .ok (.getfield 31, 3) := by decide +kernel
theorem dX5_find_27 : decode cX5_find 27 = .ok (.iload 4, 2) := by decide +kernel
theorem dX5_find_29 : decode cX5_find 29 = .ok (.iaload, 1) := by decide +kernel
theorem dX5_find_30 : decode cX5_find 30 = .ok (.iload_n 2, 1) := by decide +kernel
theorem dX5_find_31 : decode cX5_find 31 = .ok (.if_icmp .ne 17, 3) := by decide +kernel
theorem dX5_find_34 : decode cX5_find 34 = .ok (.aload_n 0, 1) := by decide +kernel
theorem dX5_find_35 : decode cX5_find 35 = .ok (.getfield 34, 3) := by decide +kernel
theorem dX5_find_38 : decode cX5_find 38 = .ok (.iload 4, 2) := by decide +kernel
theorem dX5_find_40 : decode cX5_find 40 = .ok (.iaload, 1) := by decide +kernel
theorem dX5_find_41 : decode cX5_find 41 = .ok (.iload_n 3, 1) := by decide +kernel
theorem dX5_find_42 : decode cX5_find 42 = .ok (.if_icmp .ne 6, 3) := by decide +kernel
theorem dX5_find_45 : decode cX5_find 45 = .ok (.iload 4, 2) := by decide +kernel
theorem dX5_find_47 : decode cX5_find 47 = .ok (.ireturn, 1) := by decide +kernel
theorem dX5_find_48 : decode cX5_find 48 = .ok (.iinc 4 1, 3) := by decide +kernel
theorem dX5_find_51 : decode cX5_find 51 = .ok (.goto (-48), 3) := by decide +kernel
theorem dX5_find_54 : decode cX5_find 54 = .ok (.bipush (-2), 2) := by decide +kernel
theorem dX5_find_56 : decode cX5_find 56 = .ok (.ireturn, 1) := by decide +kernel
theorem dX5_hasBase_0 : decode cX5_hasBase 0 = .ok (.aload_n 0, 1) := by decide +kernel
theorem dX5_hasBase_1 : decode cX5_hasBase 1 = .ok (.getfield 16, 3) := by decide +kernel
theorem dX5_hasBase_4 : decode cX5_hasBase 4 = .ok (.iload_n 1, 1) := by decide +kernel
theorem dX5_hasBase_5 : decode cX5_hasBase 5 = .ok (.iaload, 1) := by decide +kernel
theorem dX5_hasBase_6 : decode cX5_hasBase 6 = .ok (.iconst (-1), 1) := by decide +kernel
theorem dX5_hasBase_7 : decode cX5_hasBase 7 = .ok (.if_icmp .eq 18, 3) := by decide +kernel
theorem dX5_hasBase_10 : decode cX5_hasBase 10 = .ok (.aload_n 0, 1) := by decide +kernel
theorem dX5_hasBase_11 : decode cX5_hasBase 11 = .ok (.getfield 25, 3) := by decide +kernel
theorem dX5_hasBase_14 : decode cX5_hasBase 14 = .ok (.aload_n 0, 1) := by decide +kernel
theorem dX5_hasBase_15 : decode cX5_hasBase 15 = .ok (.getfield 16, 3) := by decide +kernel
theorem dX5_hasBase_18 : decode cX5_hasBase 18 = .ok (.iload_n 1, 1) := by decide +kernel
theorem dX5_hasBase_19 : decode cX5_hasBase 19 = .ok (.iaload, 1) := by decide +kernel
theorem dX5_hasBase_20 : decode cX5_hasBase 20 = .ok (.iaload, 1) := by decide +kernel
theorem dX5_hasBase_21 : decode cX5_hasBase 21 = .ok (.iconst (-1), 1) := by decide +kernel
theorem dX5_hasBase_22 : decode cX5_hasBase 22 = .ok (.if_icmp .eq 7, 3) := by decide +kernel
theorem dX5_hasBase_25 : decode cX5_hasBase 25 = .ok (.iconst 1, 1) := by decide +kernel
theorem dX5_hasBase_26 : decode cX5_hasBase 26 = .ok (.goto 4, 3) := by decide +kernel
theorem dX5_hasBase_29 : decode cX5_hasBase 29 = .ok (.iconst 0, 1) := by decide +kernel
theorem dX5_hasBase_30 : decode cX5_hasBase 30 = .ok (.ireturn, 1) := by decide +kernel
theorem dX5_baseOf_0 : decode cX5_baseOf 0 = .ok (.aload_n 0, 1) := by decide +kernel
theorem dX5_baseOf_1 : decode cX5_baseOf 1 = .ok (.getfield 16, 3) := by decide +kernel
theorem dX5_baseOf_4 : decode cX5_baseOf 4 = .ok (.iload_n 1, 1) := by decide +kernel
theorem dX5_baseOf_5 : decode cX5_baseOf 5 = .ok (.iaload, 1) := by decide +kernel
theorem dX5_baseOf_6 : decode cX5_baseOf 6 = .ok (.iconst (-1), 1) := by decide +kernel
theorem dX5_baseOf_7 : decode cX5_baseOf 7 = .ok (.if_icmp .ne 7, 3) := by decide +kernel
theorem dX5_baseOf_10 : decode cX5_baseOf 10 = .ok (.iconst (-1), 1) := by decide +kernel
theorem dX5_baseOf_11 : decode cX5_baseOf 11 = .ok (.goto 19, 3) := by decide +kernel
theorem dX5_baseOf_14 : decode cX5_baseOf 14 = .ok (.aload_n 0, 1) := by decide +kernel
theorem dX5_baseOf_15 : decode cX5_baseOf 15 = .ok (.getfield 40, 3) := by decide +kernel
theorem dX5_baseOf_18 : decode cX5_baseOf 18 = .ok (.aload_n 0, 1) := by decide +kernel
theorem dX5_baseOf_19 : decode cX5_baseOf 19 = .ok (.getfield 25, 3) := by decide +kernel
theorem dX5_baseOf_22 : decode cX5_baseOf 22 = .ok (.aload_n 0, 1) := by decide +kernel
theorem dX5_baseOf_23 : decode cX5_baseOf 23 = .ok (.getfield 16, 3) := by decide +kernel
theorem dX5_baseOf_26 : decode cX5_baseOf 26 = .ok (.iload_n 1, 1) := by decide +kernel
theorem dX5_baseOf_27 : decode cX5_baseOf 27 = .ok (.iaload, 1) := by decide +kernel
theorem dX5_baseOf_28 : decode cX5_baseOf 28 = .ok (.iaload, 1) := by decide +kernel
theorem dX5_baseOf_29 : decode cX5_baseOf 29 = .ok (.iaload, 1) := by decide +kernel
theorem dX5_baseOf_30 : decode cX5_baseOf 30 = .ok (.ireturn, 1) := by decide +kernel
theorem dX5_topNow_0 : decode cX5_topNow 0 = .ok (.aload_n 0, 1) := by decide +kernel
theorem dX5_topNow_1 : decode cX5_topNow 1 = .ok (.iload_n 1, 1) := by decide +kernel
theorem dX5_topNow_2 : decode cX5_topNow 2 = .ok (.invokevirtual 113, 3) := by decide +kernel
theorem dX5_topNow_5 : decode cX5_topNow 5 = .ok (.istore_n 2, 1) := by decide +kernel
theorem dX5_topNow_6 : decode cX5_topNow 6 = .ok (.iconst 5, 1) := by decide +kernel
theorem dX5_topNow_7 : decode cX5_topNow 7 = .ok (.iload_n 1, 1) := by decide +kernel
theorem dX5_topNow_8 : decode cX5_topNow 8 = .ok (.imul, 1) := by decide +kernel
theorem dX5_topNow_9 : decode cX5_topNow 9 = .ok (.istore_n 3, 1) := by decide +kernel
theorem dX5_topNow_10 : decode cX5_topNow 10 = .ok (.iload_n 3, 1) := by decide +kernel
theorem dX5_topNow_11 : decode cX5_topNow 11 = .ok (.iconst 5, 1) := by decide +kernel
theorem dX5_topNow_12 : decode cX5_topNow 12 = .ok (.iload_n 1, 1) := by decide +kernel
theorem dX5_topNow_13 : decode cX5_topNow 13 = .ok (.imul, 1) := by decide +kernel
theorem dX5_topNow_14 : decode cX5_topNow 14 = .ok (.aload_n 0, 1) := by decide +kernel
theorem dX5_topNow_15 : decode cX5_topNow 15 = .ok (.getfield 22, 3) := by decide +kernel
theorem dX5_topNow_18 : decode cX5_topNow 18 = .ok (.iload_n 1, 1) := by decide +kernel
theorem dX5_topNow_19 : decode cX5_topNow 19 = .ok (.iaload, 1) := by decide +kernel
theorem dX5_topNow_20 : decode cX5_topNow 20 = .ok (.iadd, 1) := by decide +kernel
theorem dX5_topNow_21 : decode cX5_topNow 21 = .ok (.if_icmp .ge 38, 3) := by decide +kernel
theorem dX5_topNow_24 : decode cX5_topNow 24 = .ok (.iload_n 2, 1) := by decide +kernel
theorem dX5_topNow_25 : decode cX5_topNow 25 = .ok (.bipush (-2), 2) := by decide +kernel
theorem dX5_topNow_27 : decode cX5_topNow 27 = .ok (.if_icmp .eq 32, 3) := by decide +kernel
theorem dX5_topNow_30 : decode cX5_topNow 30 = .ok (.aload_n 0, 1) := by decide +kernel
theorem dX5_topNow_31 : decode cX5_topNow 31 = .ok (.iload_n 2, 1) := by decide +kernel
theorem dX5_topNow_32 : decode cX5_topNow 32 = .ok (.aload_n 0, 1) := by decide +kernel
theorem dX5_topNow_33 : decode cX5_topNow 33 = .ok (.getfield 19, 3) := by decide +kernel
theorem dX5_topNow_36 : decode cX5_topNow 36 = .ok (.iload_n 3, 1) := by decide +kernel
theorem dX5_topNow_37 : decode cX5_topNow 37 = .ok (.iaload, 1) := by decide +kernel
theorem dX5_topNow_38 : decode cX5_topNow 38 = .ok (.aload_n 0, 1) := by decide +kernel
theorem dX5_topNow_39 : decode cX5_topNow 39 = .ok (.getfield 7, 3) := by decide +kernel
theorem dX5_topNow_42 : decode cX5_topNow 42 = .ok (.aload_n 0, 1) := by decide +kernel
theorem dX5_topNow_43 : decode cX5_topNow 43 = .ok (.getfield 19, 3) := by decide +kernel
theorem dX5_topNow_46 : decode cX5_topNow 46 = .ok (.iload_n 3, 1) := by decide +kernel
theorem dX5_topNow_47 : decode cX5_topNow 47 = .ok (.iaload, 1) := by decide +kernel
theorem dX5_topNow_48 : decode cX5_topNow 48 = .ok (.iaload, 1) := by decide +kernel
theorem dX5_topNow_49 : decode cX5_topNow 49 = .ok (.invokevirtual 117, 3) := by decide +kernel
theorem dX5_topNow_52 : decode cX5_topNow 52 = .ok (.istore_n 2, 1) := by decide +kernel
theorem dX5_topNow_53 : decode cX5_topNow 53 = .ok (.iinc 3 1, 3) := by decide +kernel
theorem dX5_topNow_56 : decode cX5_topNow 56 = .ok (.goto (-46), 3) := by decide +kernel
theorem dX5_topNow_59 : decode cX5_topNow 59 = .ok (.iload_n 2, 1) := by decide +kernel
theorem dX5_topNow_60 : decode cX5_topNow 60 = .ok (.ireturn, 1) := by decide +kernel
theorem dX5_isAlike_0 : decode cX5_isAlike 0 = .ok (.aload_n 0, 1) := by decide +kernel
theorem dX5_isAlike_1 : decode cX5_isAlike 1 = .ok (.getfield 25, 3) := by decide +kernel
theorem dX5_isAlike_4 : decode cX5_isAlike 4 = .ok (.iload_n 1, 1) := by decide +kernel
theorem dX5_isAlike_5 : decode cX5_isAlike 5 = .ok (.iaload, 1) := by decide +kernel
theorem dX5_isAlike_6 : decode cX5_isAlike 6 = .ok (.iconst (-1), 1) := by decide +kernel
theorem dX5_isAlike_7 : decode cX5_isAlike 7 = .ok (.if_icmp .eq 26, 3) := by decide +kernel
theorem dX5_isAlike_10 : decode cX5_isAlike 10 = .ok (.aload_n 0, 1) := by decide +kernel
theorem dX5_isAlike_11 : decode cX5_isAlike 11 = .ok (.iload_n 1, 1) := by decide +kernel
theorem dX5_isAlike_12 : decode cX5_isAlike 12 = .ok (.invokevirtual 121, 3) := by decide +kernel
theorem dX5_isAlike_15 : decode cX5_isAlike 15 = .ok (.aload_n 0, 1) := by decide +kernel
theorem dX5_isAlike_16 : decode cX5_isAlike 16 = .ok (.getfield 40, 3) := by decide +kernel
theorem dX5_isAlike_19 : decode cX5_isAlike 19 = .ok (.aload_n 0, 1) := by decide +kernel
theorem dX5_isAlike_20 : decode cX5_isAlike 20 = .ok (.getfield 25, 3) := by decide +kernel
theorem dX5_isAlike_23 : decode cX5_isAlike 23 = .ok (.iload_n 1, 1) := by decide +kernel
theorem dX5_isAlike_24 : decode cX5_isAlike 24 = .ok (.iaload, 1) := by decide +kernel
theorem dX5_isAlike_25 : decode cX5_isAlike 25 = .ok (.iaload, 1) := by decide +kernel
theorem dX5_isAlike_26 : decode cX5_isAlike 26 = .ok (.if_icmp .ne 7, 3) := by decide +kernel
theorem dX5_isAlike_29 : decode cX5_isAlike 29 = .ok (.iconst 1, 1) := by decide +kernel
theorem dX5_isAlike_30 : decode cX5_isAlike 30 = .ok (.goto 4, 3) := by decide +kernel
theorem dX5_isAlike_33 : decode cX5_isAlike 33 = .ok (.iconst 0, 1) := by decide +kernel
theorem dX5_isAlike_34 : decode cX5_isAlike 34 = .ok (.ireturn, 1) := by decide +kernel
theorem dX5_isFreshNow_0 : decode cX5_isFreshNow 0 = .ok (.iconst 1, 1) := by decide +kernel
theorem dX5_isFreshNow_1 : decode cX5_isFreshNow 1 = .ok (.istore_n 2, 1) := by decide +kernel
theorem dX5_isFreshNow_2 : decode cX5_isFreshNow 2 = .ok (.iload_n 1, 1) := by decide +kernel
theorem dX5_isFreshNow_3 : decode cX5_isFreshNow 3 = .ok (.istore_n 3, 1) := by decide +kernel
theorem dX5_isFreshNow_4 : decode cX5_isFreshNow 4 = .ok (.iload_n 3, 1) := by decide +kernel
theorem dX5_isFreshNow_5 : decode cX5_isFreshNow 5 = .ok (.iconst (-1), 1) := by decide +kernel
theorem dX5_isFreshNow_6 : decode cX5_isFreshNow 6 = .ok (.if_icmp .eq 39, 3) := by decide +kernel
theorem dX5_isFreshNow_9 : decode cX5_isFreshNow 9 = .ok (.iload_n 2, 1) := by decide +kernel
theorem dX5_isFreshNow_10 : decode cX5_isFreshNow 10 = .ok (.ifCond .eq 23, 3) := by decide +kernel
theorem dX5_isFreshNow_13 : decode cX5_isFreshNow 13 = .ok (.aload_n 0, 1) := by decide +kernel
theorem dX5_isFreshNow_14 : decode cX5_isFreshNow 14 = .ok (.iload_n 3, 1) := by decide +kernel
theorem dX5_isFreshNow_15 : decode cX5_isFreshNow 15 = .ok (.invokevirtual 124, 3) := by decide +kernel
theorem dX5_isFreshNow_18 : decode cX5_isFreshNow 18 = .ok (.ifCond .eq 15, 3) := by decide +kernel
theorem dX5_isFreshNow_21 : decode cX5_isFreshNow 21 = .ok (.aload_n 0, 1) := by decide +kernel
theorem dX5_isFreshNow_22 : decode cX5_isFreshNow 22 = .ok (.iload_n 3, 1) := by decide +kernel
theorem dX5_isFreshNow_23 : decode cX5_isFreshNow 23 = .ok (.invokevirtual 127, 3) := by decide +kernel
theorem dX5_isFreshNow_26 : decode cX5_isFreshNow 26 = .ok (.ifCond .eq 7, 3) := by decide +kernel
theorem dX5_isFreshNow_29 : decode cX5_isFreshNow 29 = .ok (.iconst 1, 1) := by decide +kernel
theorem dX5_isFreshNow_30 : decode cX5_isFreshNow 30 = .ok (.goto 4, 3) := by decide +kernel
theorem dX5_isFreshNow_33 : decode cX5_isFreshNow 33 = .ok (.iconst 0, 1) := by decide +kernel
theorem dX5_isFreshNow_34 : decode cX5_isFreshNow 34 = .ok (.istore_n 2, 1) := by decide +kernel
theorem dX5_isFreshNow_35 : decode cX5_isFreshNow 35 = .ok (.aload_n 0, 1) := by decide +kernel
theorem dX5_isFreshNow_36 : decode cX5_isFreshNow 36 = .ok (.getfield 16, 3) := by decide +kernel
theorem dX5_isFreshNow_39 : decode cX5_isFreshNow 39 = .ok (.iload_n 3, 1) := by decide +kernel
theorem dX5_isFreshNow_40 : decode cX5_isFreshNow 40 = .ok (.iaload, 1) := by decide +kernel
theorem dX5_isFreshNow_41 : decode cX5_isFreshNow 41 = .ok (.istore_n 3, 1) := by decide +kernel
theorem dX5_isFreshNow_42 : decode cX5_isFreshNow 42 = .ok (.goto (-38), 3) := by decide +kernel
theorem dX5_isFreshNow_45 : decode cX5_isFreshNow 45 = .ok (.iload_n 2, 1) := by decide +kernel
theorem dX5_isFreshNow_46 : decode cX5_isFreshNow 46 = .ok (.ireturn, 1) := by decide +kernel
theorem dX5_makes_0 : decode cX5_makes 0 = .ok (.aload_n 0, 1) := by decide +kernel
theorem dX5_makes_1 : decode cX5_makes 1 = .ok (.iload_n 1, 1) := by decide +kernel
theorem dX5_makes_2 : decode cX5_makes 2 = .ok (.invokevirtual 113, 3) := by decide +kernel
theorem dX5_makes_5 : decode cX5_makes 5 = .ok (.istore_n 2, 1) := by decide +kernel
theorem dX5_makes_6 : decode cX5_makes 6 = .ok (.iconst 5, 1) := by decide +kernel
theorem dX5_makes_7 : decode cX5_makes 7 = .ok (.iload_n 1, 1) := by decide +kernel
theorem dX5_makes_8 : decode cX5_makes 8 = .ok (.imul, 1) := by decide +kernel
theorem dX5_makes_9 : decode cX5_makes 9 = .ok (.istore_n 3, 1) := by decide +kernel
theorem dX5_makes_10 : decode cX5_makes 10 = .ok (.iload_n 3, 1) := by decide +kernel
theorem dX5_makes_11 : decode cX5_makes 11 = .ok (.iconst 5, 1) := by decide +kernel
theorem dX5_makes_12 : decode cX5_makes 12 = .ok (.iload_n 1, 1) := by decide +kernel
theorem dX5_makes_13 : decode cX5_makes 13 = .ok (.imul, 1) := by decide +kernel
theorem dX5_makes_14 : decode cX5_makes 14 = .ok (.aload_n 0, 1) := by decide +kernel
theorem dX5_makes_15 : decode cX5_makes 15 = .ok (.getfield 22, 3) := by decide +kernel
theorem dX5_makes_18 : decode cX5_makes 18 = .ok (.iload_n 1, 1) := by decide +kernel
theorem dX5_makes_19 : decode cX5_makes 19 = .ok (.iaload, 1) := by decide +kernel
theorem dX5_makes_20 : decode cX5_makes 20 = .ok (.iadd, 1) := by decide +kernel
theorem dX5_makes_21 : decode cX5_makes 21 = .ok (.if_icmp .ge 104, 3) := by decide +kernel
theorem dX5_makes_24 : decode cX5_makes 24 = .ok (.aload_n 0, 1) := by decide +kernel
theorem dX5_makes_25 : decode cX5_makes 25 = .ok (.iload_n 2, 1) := by decide +kernel
theorem dX5_makes_26 : decode cX5_makes 26 = .ok (.aload_n 0, 1) := by decide +kernel
theorem dX5_makes_27 : decode cX5_makes 27 = .ok (.getfield 19, 3) := by decide +kernel
theorem dX5_makes_30 : decode cX5_makes 30 = .ok (.iload_n 3, 1) := by decide +kernel
theorem dX5_makes_31 : decode cX5_makes 31 = .ok (.iaload, 1) := by decide +kernel
theorem dX5_makes_32 : decode cX5_makes 32 = .ok (.aload_n 0, 1) := by decide +kernel
theorem dX5_makes_33 : decode cX5_makes 33 = .ok (.getfield 7, 3) := by decide +kernel
theorem dX5_makes_36 : decode cX5_makes 36 = .ok (.aload_n 0, 1) := by decide +kernel
theorem dX5_makes_37 : decode cX5_makes 37 = .ok (.getfield 19, 3) := by decide +kernel
theorem dX5_makes_40 : decode cX5_makes 40 = .ok (.iload_n 3, 1) := by decide +kernel
theorem dX5_makes_41 : decode cX5_makes 41 = .ok (.iaload, 1) := by decide +kernel
theorem dX5_makes_42 : decode cX5_makes 42 = .ok (.iaload, 1) := by decide +kernel
theorem dX5_makes_43 : decode cX5_makes 43 = .ok (.invokevirtual 117, 3) := by decide +kernel
theorem dX5_makes_46 : decode cX5_makes 46 = .ok (.istore 4, 2) := by decide +kernel
theorem dX5_makes_48 : decode cX5_makes 48 = .ok (.iload 4, 2) := by decide +kernel
theorem dX5_makes_50 : decode cX5_makes 50 = .ok (.bipush (-2), 2) := by decide +kernel
theorem dX5_makes_52 : decode cX5_makes 52 = .ok (.if_icmp .ne 64, 3) := by decide +kernel
theorem dX5_makes_55 : decode cX5_makes 55 = .ok (.aload_n 0, 1) := by decide +kernel
theorem dX5_makes_56 : decode cX5_makes 56 = .ok (.getfield 28, 3) := by decide +kernel
theorem dX5_makes_59 : decode cX5_makes 59 = .ok (.aload_n 0, 1) := by decide +kernel
theorem dX5_makes_60 : decode cX5_makes 60 = .ok (.getfield 110, 3) := by decide +kernel
theorem dX5_makes_63 : decode cX5_makes 63 = .ok (.iload_n 2, 1) := by decide +kernel
theorem dX5_makes_64 : decode cX5_makes 64 = .ok (.iastore, 1) := by decide +kernel
theorem dX5_makes_65 : decode cX5_makes 65 = .ok (.aload_n 0, 1) := by decide +kernel
theorem dX5_makes_66 : decode cX5_makes 66 = .ok (.getfield 31, 3) := by decide +kernel
theorem dX5_makes_69 : decode cX5_makes 69 = .ok (.aload_n 0, 1) := by decide +kernel
theorem dX5_makes_70 : decode cX5_makes 70 = .ok (.getfield 110, 3) := by decide +kernel
theorem dX5_makes_73 : decode cX5_makes 73 = .ok (.aload_n 0, 1) := by decide +kernel
theorem dX5_makes_74 : decode cX5_makes 74 = .ok (.getfield 19, 3) := by decide +kernel
theorem dX5_makes_77 : decode cX5_makes 77 = .ok (.iload_n 3, 1) := by decide +kernel
theorem dX5_makes_78 : decode cX5_makes 78 = .ok (.iaload, 1) := by decide +kernel
theorem dX5_makes_79 : decode cX5_makes 79 = .ok (.iastore, 1) := by decide +kernel
theorem dX5_makes_80 : decode cX5_makes 80 = .ok (.aload_n 0, 1) := by decide +kernel
theorem dX5_makes_81 : decode cX5_makes 81 = .ok (.getfield 34, 3) := by decide +kernel
theorem dX5_makes_84 : decode cX5_makes 84 = .ok (.aload_n 0, 1) := by decide +kernel
theorem dX5_makes_85 : decode cX5_makes 85 = .ok (.getfield 110, 3) := by decide +kernel
theorem dX5_makes_88 : decode cX5_makes 88 = .ok (.aload_n 0, 1) := by decide +kernel
theorem dX5_makes_89 : decode cX5_makes 89 = .ok (.getfield 7, 3) := by decide +kernel
theorem dX5_makes_92 : decode cX5_makes 92 = .ok (.aload_n 0, 1) := by decide +kernel
theorem dX5_makes_93 : decode cX5_makes 93 = .ok (.getfield 19, 3) := by decide +kernel
theorem dX5_makes_96 : decode cX5_makes 96 = .ok (.iload_n 3, 1) := by decide +kernel
theorem dX5_makes_97 : decode cX5_makes 97 = .ok (.iaload, 1) := by decide +kernel
theorem dX5_makes_98 : decode cX5_makes 98 = .ok (.iaload, 1) := by decide +kernel
theorem dX5_makes_99 : decode cX5_makes 99 = .ok (.iastore, 1) := by decide +kernel
theorem dX5_makes_100 : decode cX5_makes 100 = .ok (.aload_n 0, 1) := by decide +kernel
theorem dX5_makes_101 : decode cX5_makes 101 = .ok (.getfield 110, 3) := by decide +kernel
theorem dX5_makes_104 : decode cX5_makes 104 = .ok (.istore 4, 2) := by decide +kernel
theorem dX5_makes_106 : decode cX5_makes 106 = .ok (.aload_n 0, 1) := by decide +kernel
theorem dX5_makes_107 : decode cX5_makes 107 = .ok (.dup, 1) := by decide +kernel
theorem dX5_makes_108 : decode cX5_makes 108 = .ok (.getfield 110, 3) := by decide +kernel
theorem dX5_makes_111 : decode cX5_makes 111 = .ok (.iconst 1, 1) := by decide +kernel
theorem dX5_makes_112 : decode cX5_makes 112 = .ok (.iadd, 1) := by decide +kernel
theorem dX5_makes_113 : decode cX5_makes 113 = .ok (.putfield 110, 3) := by decide +kernel
theorem dX5_makes_116 : decode cX5_makes 116 = .ok (.iload 4, 2) := by decide +kernel
theorem dX5_makes_118 : decode cX5_makes 118 = .ok (.istore_n 2, 1) := by decide +kernel
theorem dX5_makes_119 : decode cX5_makes 119 = .ok (.iinc 3 1, 3) := by decide +kernel
theorem dX5_makes_122 : decode cX5_makes 122 = .ok (.goto (-112), 3) := by decide +kernel
theorem dX5_makes_125 : decode cX5_makes 125 = .ok (.aload_n 0, 1) := by decide +kernel
theorem dX5_makes_126 : decode cX5_makes 126 = .ok (.getfield 37, 3) := by decide +kernel
theorem dX5_makes_129 : decode cX5_makes 129 = .ok (.aload_n 0, 1) := by decide +kernel
theorem dX5_makes_130 : decode cX5_makes 130 = .ok (.getfield 100, 3) := by decide +kernel
theorem dX5_makes_133 : decode cX5_makes 133 = .ok (.iload_n 1, 1) := by decide +kernel
theorem dX5_makes_134 : decode cX5_makes 134 = .ok (.iastore, 1) := by decide +kernel
theorem dX5_makes_135 : decode cX5_makes 135 = .ok (.aload_n 0, 1) := by decide +kernel
theorem dX5_makes_136 : decode cX5_makes 136 = .ok (.getfield 40, 3) := by decide +kernel
theorem dX5_makes_139 : decode cX5_makes 139 = .ok (.aload_n 0, 1) := by decide +kernel
theorem dX5_makes_140 : decode cX5_makes 140 = .ok (.getfield 100, 3) := by decide +kernel
theorem dX5_makes_143 : decode cX5_makes 143 = .ok (.iload_n 2, 1) := by decide +kernel
theorem dX5_makes_144 : decode cX5_makes 144 = .ok (.iastore, 1) := by decide +kernel
theorem dX5_makes_145 : decode cX5_makes 145 = .ok (.aload_n 0, 1) := by decide +kernel
theorem dX5_makes_146 : decode cX5_makes 146 = .ok (.getfield 43, 3) := by decide +kernel
theorem dX5_makes_149 : decode cX5_makes 149 = .ok (.aload_n 0, 1) := by decide +kernel
theorem dX5_makes_150 : decode cX5_makes 150 = .ok (.getfield 100, 3) := by decide +kernel
theorem dX5_makes_153 : decode cX5_makes 153 = .ok (.aload_n 0, 1) := by decide +kernel
theorem dX5_makes_154 : decode cX5_makes 154 = .ok (.getfield 130, 3) := by decide +kernel
theorem dX5_makes_157 : decode cX5_makes 157 = .ok (.iastore, 1) := by decide +kernel
theorem dX5_makes_158 : decode cX5_makes 158 = .ok (.aload_n 0, 1) := by decide +kernel
theorem dX5_makes_159 : decode cX5_makes 159 = .ok (.getfield 46, 3) := by decide +kernel
theorem dX5_makes_162 : decode cX5_makes 162 = .ok (.aload_n 0, 1) := by decide +kernel
theorem dX5_makes_163 : decode cX5_makes 163 = .ok (.getfield 100, 3) := by decide +kernel
theorem dX5_makes_166 : decode cX5_makes 166 = .ok (.iconst 0, 1) := by decide +kernel
theorem dX5_makes_167 : decode cX5_makes 167 = .ok (.iastore, 1) := by decide +kernel
theorem dX5_makes_168 : decode cX5_makes 168 = .ok (.aload_n 0, 1) := by decide +kernel
theorem dX5_makes_169 : decode cX5_makes 169 = .ok (.getfield 49, 3) := by decide +kernel
theorem dX5_makes_172 : decode cX5_makes 172 = .ok (.aload_n 0, 1) := by decide +kernel
theorem dX5_makes_173 : decode cX5_makes 173 = .ok (.getfield 100, 3) := by decide +kernel
theorem dX5_makes_176 : decode cX5_makes 176 = .ok (.iconst 0, 1) := by decide +kernel
theorem dX5_makes_177 : decode cX5_makes 177 = .ok (.bastore, 1) := by decide +kernel
theorem dX5_makes_178 : decode cX5_makes 178 = .ok (.aload_n 0, 1) := by decide +kernel
theorem dX5_makes_179 : decode cX5_makes 179 = .ok (.getfield 53, 3) := by decide +kernel
theorem dX5_makes_182 : decode cX5_makes 182 = .ok (.aload_n 0, 1) := by decide +kernel
theorem dX5_makes_183 : decode cX5_makes 183 = .ok (.getfield 100, 3) := by decide +kernel
theorem dX5_makes_186 : decode cX5_makes 186 = .ok (.iconst 0, 1) := by decide +kernel
theorem dX5_makes_187 : decode cX5_makes 187 = .ok (.bastore, 1) := by decide +kernel
theorem dX5_makes_188 : decode cX5_makes 188 = .ok (.aload_n 0, 1) := by decide +kernel
theorem dX5_makes_189 : decode cX5_makes 189 = .ok (.getfield 56, 3) := by decide +kernel
theorem dX5_makes_192 : decode cX5_makes 192 = .ok (.aload_n 0, 1) := by decide +kernel
theorem dX5_makes_193 : decode cX5_makes 193 = .ok (.getfield 100, 3) := by decide +kernel
theorem dX5_makes_196 : decode cX5_makes 196 = .ok (.iconst 0, 1) := by decide +kernel
theorem dX5_makes_197 : decode cX5_makes 197 = .ok (.bastore, 1) := by decide +kernel
theorem dX5_makes_198 : decode cX5_makes 198 = .ok (.iconst 0, 1) := by decide +kernel
theorem dX5_makes_199 : decode cX5_makes 199 = .ok (.istore_n 3, 1) := by decide +kernel
theorem dX5_makes_200 : decode cX5_makes 200 = .ok (.iload_n 3, 1) := by decide +kernel
theorem dX5_makes_201 : decode cX5_makes 201 = .ok (.iconst 3, 1) := by decide +kernel
theorem dX5_makes_202 : decode cX5_makes 202 = .ok (.if_icmp .ge 23, 3) := by decide +kernel
theorem dX5_makes_205 : decode cX5_makes 205 = .ok (.aload_n 0, 1) := by decide +kernel
theorem dX5_makes_206 : decode cX5_makes 206 = .ok (.getfield 59, 3) := by decide +kernel
theorem dX5_makes_209 : decode cX5_makes 209 = .ok (.iconst 3, 1) := by decide +kernel
theorem dX5_makes_210 : decode cX5_makes 210 = .ok (.aload_n 0, 1) := by decide +kernel
theorem dX5_makes_211 : decode cX5_makes 211 = .ok (.getfield 100, 3) := by decide +kernel
theorem dX5_makes_214 : decode cX5_makes 214 = .ok (.imul, 1) := by decide +kernel
theorem dX5_makes_215 : decode cX5_makes 215 = .ok (.iload_n 3, 1) := by decide +kernel
theorem dX5_makes_216 : decode cX5_makes 216 = .ok (.iadd, 1) := by decide +kernel
theorem dX5_makes_217 : decode cX5_makes 217 = .ok (.iconst (-1), 1) := by decide +kernel
theorem dX5_makes_218 : decode cX5_makes 218 = .ok (.iastore, 1) := by decide +kernel
theorem dX5_makes_219 : decode cX5_makes 219 = .ok (.iinc 3 1, 3) := by decide +kernel
theorem dX5_makes_222 : decode cX5_makes 222 = .ok (.goto (-22), 3) := by decide +kernel
theorem dX5_makes_225 : decode cX5_makes 225 = .ok (.aload_n 0, 1) := by decide +kernel
theorem dX5_makes_226 : decode cX5_makes 226 = .ok (.getfield 25, 3) := by decide +kernel
theorem dX5_makes_229 : decode cX5_makes 229 = .ok (.iload_n 1, 1) := by decide +kernel
theorem dX5_makes_230 : decode cX5_makes 230 = .ok (.aload_n 0, 1) := by decide +kernel
theorem dX5_makes_231 : decode cX5_makes 231 = .ok (.getfield 100, 3) := by decide +kernel
theorem dX5_makes_234 : decode cX5_makes 234 = .ok (.iastore, 1) := by decide +kernel
theorem dX5_makes_235 : decode cX5_makes 235 = .ok (.aload_n 0, 1) := by decide +kernel
theorem dX5_makes_236 : decode cX5_makes 236 = .ok (.dup, 1) := by decide +kernel
theorem dX5_makes_237 : decode cX5_makes 237 = .ok (.getfield 100, 3) := by decide +kernel
theorem dX5_makes_240 : decode cX5_makes 240 = .ok (.iconst 1, 1) := by decide +kernel
theorem dX5_makes_241 : decode cX5_makes 241 = .ok (.iadd, 1) := by decide +kernel
theorem dX5_makes_242 : decode cX5_makes 242 = .ok (.putfield 100, 3) := by decide +kernel
theorem dX5_makes_245 : decode cX5_makes 245 = .ok (.return_, 1) := by decide +kernel
theorem dX5_bake_0 : decode cX5_bake 0 = .ok (.aload_n 0, 1) := by decide +kernel
theorem dX5_bake_1 : decode cX5_bake 1 = .ok (.iload_n 1, 1) := by decide +kernel
theorem dX5_bake_2 : decode cX5_bake 2 = .ok (.invokevirtual 107, 3) := by decide +kernel
theorem dX5_bake_5 : decode cX5_bake 5 = .ok (.istore_n 2, 1) := by decide +kernel
theorem dX5_bake_6 : decode cX5_bake 6 = .ok (.aload_n 0, 1) := by decide +kernel
theorem dX5_bake_7 : decode cX5_bake 7 = .ok (.iload_n 2, 1) := by decide +kernel
theorem dX5_bake_8 : decode cX5_bake 8 = .ok (.ifCond .ne 7, 3) := by decide +kernel
theorem dX5_bake_11 : decode cX5_bake 11 = .ok (.iconst 1, 1) := by decide +kernel
theorem dX5_bake_12 : decode cX5_bake 12 = .ok (.goto 33, 3) := by decide +kernel
theorem dX5_bake_15 : decode cX5_bake 15 = .ok (.aload_n 0, 1) := by decide +kernel
theorem dX5_bake_16 : decode cX5_bake 16 = .ok (.iload_n 1, 1) := by decide +kernel
theorem dX5_bake_17 : decode cX5_bake 17 = .ok (.invokevirtual 124, 3) := by decide +kernel
theorem dX5_bake_20 : decode cX5_bake 20 = .ok (.ifCond .eq 20, 3) := by decide +kernel
theorem dX5_bake_23 : decode cX5_bake 23 = .ok (.aload_n 0, 1) := by decide +kernel
theorem dX5_bake_24 : decode cX5_bake 24 = .ok (.iload_n 1, 1) := by decide +kernel
theorem dX5_bake_25 : decode cX5_bake 25 = .ok (.invokevirtual 127, 3) := by decide +kernel
theorem dX5_bake_28 : decode cX5_bake 28 = .ok (.ifCond .ne 16, 3) := by decide +kernel
theorem dX5_bake_31 : decode cX5_bake 31 = .ok (.aload_n 0, 1) := by decide +kernel
theorem dX5_bake_32 : decode cX5_bake 32 = .ok (.getfield 100, 3) := by decide +kernel
theorem dX5_bake_35 : decode cX5_bake 35 = .ok (.bipush 60, 2) := by decide +kernel
theorem dX5_bake_37 : decode cX5_bake 37 = .ok (.if_icmp .ne 7, 3) := by decide +kernel
theorem dX5_bake_40 : decode cX5_bake 40 = .ok (.iconst 2, 1) := by decide +kernel
theorem dX5_bake_41 : decode cX5_bake 41 = .ok (.goto 4, 3) := by decide +kernel
theorem dX5_bake_44 : decode cX5_bake 44 = .ok (.iconst 0, 1) := by decide +kernel
theorem dX5_bake_45 : decode cX5_bake 45 = .ok (.invokevirtual 103, 3) := by decide +kernel
theorem dX5_bake_48 : decode cX5_bake 48 = .ok (.ifCond .ne 5, 3) := by decide +kernel
theorem dX5_bake_51 : decode cX5_bake 51 = .ok (.iconst 0, 1) := by decide +kernel
theorem dX5_bake_52 : decode cX5_bake 52 = .ok (.ireturn, 1) := by decide +kernel
theorem dX5_bake_53 : decode cX5_bake 53 = .ok (.aload_n 0, 1) := by decide +kernel
theorem dX5_bake_54 : decode cX5_bake 54 = .ok (.iload_n 1, 1) := by decide +kernel
theorem dX5_bake_55 : decode cX5_bake 55 = .ok (.invokevirtual 127, 3) := by decide +kernel
theorem dX5_bake_58 : decode cX5_bake 58 = .ok (.ifCond .ne 8, 3) := by decide +kernel
theorem dX5_bake_61 : decode cX5_bake 61 = .ok (.aload_n 0, 1) := by decide +kernel
theorem dX5_bake_62 : decode cX5_bake 62 = .ok (.iload_n 1, 1) := by decide +kernel
theorem dX5_bake_63 : decode cX5_bake 63 = .ok (.invokevirtual 133, 3) := by decide +kernel
theorem dX5_bake_66 : decode cX5_bake 66 = .ok (.aload_n 0, 1) := by decide +kernel
theorem dX5_bake_67 : decode cX5_bake 67 = .ok (.getfield 25, 3) := by decide +kernel
theorem dX5_bake_70 : decode cX5_bake 70 = .ok (.iload_n 1, 1) := by decide +kernel
theorem dX5_bake_71 : decode cX5_bake 71 = .ok (.iaload, 1) := by decide +kernel
theorem dX5_bake_72 : decode cX5_bake 72 = .ok (.ireturn, 1) := by decide +kernel
theorem dX5_joins_0 : decode cX5_joins 0 = .ok (.iload_n 2, 1) := by decide +kernel
theorem dX5_joins_1 : decode cX5_joins 1 = .ok (.istore_n 3, 1) := by decide +kernel
theorem dX5_joins_2 : decode cX5_joins 2 = .ok (.iconst 0, 1) := by decide +kernel
theorem dX5_joins_3 : decode cX5_joins 3 = .ok (.istore 4, 2) := by decide +kernel
theorem dX5_joins_5 : decode cX5_joins 5 = .ok (.iload 4, 2) := by decide +kernel
theorem dX5_joins_7 : decode cX5_joins 7 = .ok (.aload_n 0, 1) := by decide +kernel
theorem dX5_joins_8 : decode cX5_joins 8 = .ok (.getfield 93, 3) := by decide +kernel
theorem dX5_joins_11 : decode cX5_joins 11 = .ok (.if_icmp .ge 31, 3) := by decide +kernel
theorem dX5_joins_14 : decode cX5_joins 14 = .ok (.aload_n 0, 1) := by decide +kernel
theorem dX5_joins_15 : decode cX5_joins 15 = .ok (.getfield 16, 3) := by decide +kernel
theorem dX5_joins_18 : decode cX5_joins 18 = .ok (.iload 4, 2) := by decide +kernel
theorem dX5_joins_20 : decode cX5_joins 20 = .ok (.iaload, 1) := by decide +kernel
theorem dX5_joins_21 : decode cX5_joins 21 = .ok (.iload_n 1, 1) := by decide +kernel
theorem dX5_joins_22 : decode cX5_joins 22 = .ok (.if_icmp .ne 14, 3) := by decide +kernel
theorem dX5_joins_25 : decode cX5_joins 25 = .ok (.aload_n 0, 1) := by decide +kernel
theorem dX5_joins_26 : decode cX5_joins 26 = .ok (.getfield 84, 3) := by decide +kernel
theorem dX5_joins_29 : decode cX5_joins 29 = .ok (.iload_n 3, 1) := by decide +kernel
theorem dX5_joins_30 : decode cX5_joins 30 = .ok (.iload 4, 2) := by decide +kernel
theorem dX5_joins_32 : decode cX5_joins 32 = .ok (.iastore, 1) := by decide +kernel
theorem dX5_joins_33 : decode cX5_joins 33 = .ok (.iinc 3 1, 3) := by decide +kernel
theorem dX5_joins_36 : decode cX5_joins 36 = .ok (.iinc 4 1, 3) := by decide +kernel
theorem dX5_joins_39 : decode cX5_joins 39 = .ok (.goto (-34), 3) := by decide +kernel
theorem dX5_joins_42 : decode cX5_joins 42 = .ok (.iload_n 3, 1) := by decide +kernel
theorem dX5_joins_43 : decode cX5_joins 43 = .ok (.ireturn, 1) := by decide +kernel
theorem dX5_bakeAll_0 : decode cX5_bakeAll 0 = .ok (.aload_n 0, 1) := by decide +kernel
theorem dX5_bakeAll_1 : decode cX5_bakeAll 1 = .ok (.getfield 100, 3) := by decide +kernel
theorem dX5_bakeAll_4 : decode cX5_bakeAll 4 = .ok (.istore_n 1, 1) := by decide +kernel
theorem dX5_bakeAll_5 : decode cX5_bakeAll 5 = .ok (.aload_n 0, 1) := by decide +kernel
theorem dX5_bakeAll_6 : decode cX5_bakeAll 6 = .ok (.getfield 110, 3) := by decide +kernel
theorem dX5_bakeAll_9 : decode cX5_bakeAll 9 = .ok (.istore_n 2, 1) := by decide +kernel
theorem dX5_bakeAll_10 : decode cX5_bakeAll 10 = .ok (.iconst 0, 1) := by decide +kernel
theorem dX5_bakeAll_11 : decode cX5_bakeAll 11 = .ok (.istore_n 3, 1) := by decide +kernel
theorem dX5_bakeAll_12 : decode cX5_bakeAll 12 = .ok (.iload_n 3, 1) := by decide +kernel
theorem dX5_bakeAll_13 : decode cX5_bakeAll 13 = .ok (.aload_n 0, 1) := by decide +kernel
theorem dX5_bakeAll_14 : decode cX5_bakeAll 14 = .ok (.getfield 93, 3) := by decide +kernel
theorem dX5_bakeAll_17 : decode cX5_bakeAll 17 = .ok (.if_icmp .ge 21, 3) := by decide +kernel
theorem dX5_bakeAll_20 : decode cX5_bakeAll 20 = .ok (.aload_n 0, 1) := by decide +kernel
theorem dX5_bakeAll_21 : decode cX5_bakeAll 21 = .ok (.getfield 87, 3) := by decide +kernel
theorem dX5_bakeAll_24 : decode cX5_bakeAll 24 = .ok (.iload_n 3, 1) := by decide +kernel
theorem dX5_bakeAll_25 : decode cX5_bakeAll 25 = .ok (.aload_n 0, 1) := by decide +kernel
theorem dX5_bakeAll_26 : decode cX5_bakeAll 26 = .ok (.getfield 25, 3) := by decide +kernel
theorem dX5_bakeAll_29 : decode cX5_bakeAll 29 = .ok (.iload_n 3, 1) := by decide +kernel
theorem dX5_bakeAll_30 : decode cX5_bakeAll 30 = .ok (.iaload, 1) := by decide +kernel
theorem dX5_bakeAll_31 : decode cX5_bakeAll 31 = .ok (.iastore, 1) := by decide +kernel
theorem dX5_bakeAll_32 : decode cX5_bakeAll 32 = .ok (.iinc 3 1, 3) := by decide +kernel
theorem dX5_bakeAll_35 : decode cX5_bakeAll 35 = .ok (.goto (-23), 3) := by decide +kernel
theorem dX5_bakeAll_38 : decode cX5_bakeAll 38 = .ok (.aload_n 0, 1) := by decide +kernel
theorem dX5_bakeAll_39 : decode cX5_bakeAll 39 = .ok (.iconst (-1), 1) := by decide +kernel
theorem dX5_bakeAll_40 : decode cX5_bakeAll 40 = .ok (.iconst 0, 1) := by decide +kernel
theorem dX5_bakeAll_41 : decode cX5_bakeAll 41 = .ok (.invokevirtual 137, 3) := by decide +kernel
theorem dX5_bakeAll_44 : decode cX5_bakeAll 44 = .ok (.istore_n 3, 1) := by decide +kernel
theorem dX5_bakeAll_45 : decode cX5_bakeAll 45 = .ok (.iconst 1, 1) := by decide +kernel
theorem dX5_bakeAll_46 : decode cX5_bakeAll 46 = .ok (.istore 4, 2) := by decide +kernel
theorem dX5_bakeAll_48 : decode cX5_bakeAll 48 = .ok (.iconst 0, 1) := by decide +kernel
theorem dX5_bakeAll_49 : decode cX5_bakeAll 49 = .ok (.istore 5, 2) := by decide +kernel
theorem dX5_bakeAll_51 : decode cX5_bakeAll 51 = .ok (.iload 5, 2) := by decide +kernel
theorem dX5_bakeAll_53 : decode cX5_bakeAll 53 = .ok (.iload_n 3, 1) := by decide +kernel
theorem dX5_bakeAll_54 : decode cX5_bakeAll 54 = .ok (.if_icmp .ge 76, 3) := by decide +kernel
theorem dX5_bakeAll_57 : decode cX5_bakeAll 57 = .ok (.iload 4, 2) := by decide +kernel
theorem dX5_bakeAll_59 : decode cX5_bakeAll 59 = .ok (.ifCond .eq 71, 3) := by decide +kernel
theorem dX5_bakeAll_62 : decode cX5_bakeAll 62 = .ok (.aload_n 0, 1) := by decide +kernel
theorem dX5_bakeAll_63 : decode cX5_bakeAll 63 = .ok (.getfield 84, 3) := by decide +kernel
theorem dX5_bakeAll_66 : decode cX5_bakeAll 66 = .ok (.iload 5, 2) := by decide +kernel
theorem dX5_bakeAll_68 : decode cX5_bakeAll 68 = .ok (.iaload, 1) := by decide +kernel
theorem dX5_bakeAll_69 : decode cX5_bakeAll 69 = .ok (.istore 6, 2) := by decide +kernel
theorem dX5_bakeAll_71 : decode cX5_bakeAll 71 = .ok (.aload_n 0, 1) := by decide +kernel
theorem dX5_bakeAll_72 : decode cX5_bakeAll 72 = .ok (.iload 6, 2) := by decide +kernel
theorem dX5_bakeAll_74 : decode cX5_bakeAll 74 = .ok (.invokevirtual 141, 3) := by decide +kernel
theorem dX5_bakeAll_77 : decode cX5_bakeAll 77 = .ok (.istore 7, 2) := by decide +kernel
theorem dX5_bakeAll_79 : decode cX5_bakeAll 79 = .ok (.iload 7, 2) := by decide +kernel
theorem dX5_bakeAll_81 : decode cX5_bakeAll 81 = .ok (.ifCond .ne 12, 3) := by decide +kernel
theorem dX5_bakeAll_84 : decode cX5_bakeAll 84 = .ok (.aload_n 0, 1) := by decide +kernel
theorem dX5_bakeAll_85 : decode cX5_bakeAll 85 = .ok (.getfield 100, 3) := by decide +kernel
theorem dX5_bakeAll_88 : decode cX5_bakeAll 88 = .ok (.bipush 60, 2) := by decide +kernel
theorem dX5_bakeAll_90 : decode cX5_bakeAll 90 = .ok (.if_icmp .ge 7, 3) := by decide +kernel
theorem dX5_bakeAll_93 : decode cX5_bakeAll 93 = .ok (.iconst 1, 1) := by decide +kernel
theorem dX5_bakeAll_94 : decode cX5_bakeAll 94 = .ok (.goto 4, 3) := by decide +kernel
theorem dX5_bakeAll_97 : decode cX5_bakeAll 97 = .ok (.iconst 0, 1) := by decide +kernel
theorem dX5_bakeAll_98 : decode cX5_bakeAll 98 = .ok (.istore 4, 2) := by decide +kernel
theorem dX5_bakeAll_100 : decode cX5_bakeAll 100 = .ok (.iload 7, 2) := by decide +kernel
theorem dX5_bakeAll_102 : decode cX5_bakeAll 102 = .ok (.ifCond .ne 14, 3) := by decide +kernel
theorem dX5_bakeAll_105 : decode cX5_bakeAll 105 = .ok (.iload 4, 2) := by decide +kernel
theorem dX5_bakeAll_107 : decode cX5_bakeAll 107 = .ok (.ifCond .eq 9, 3) := by decide +kernel
theorem dX5_bakeAll_110 : decode cX5_bakeAll 110 = .ok (.aload_n 0, 1) := by decide +kernel
theorem dX5_bakeAll_111 : decode cX5_bakeAll 111 = .ok (.iload 6, 2) := by decide +kernel
theorem dX5_bakeAll_113 : decode cX5_bakeAll 113 = .ok (.invokevirtual 133, 3) := by decide +kernel
theorem dX5_bakeAll_116 : decode cX5_bakeAll 116 = .ok (.aload_n 0, 1) := by decide +kernel
theorem dX5_bakeAll_117 : decode cX5_bakeAll 117 = .ok (.iload 6, 2) := by decide +kernel
theorem dX5_bakeAll_119 : decode cX5_bakeAll 119 = .ok (.iload_n 3, 1) := by decide +kernel
theorem dX5_bakeAll_120 : decode cX5_bakeAll 120 = .ok (.invokevirtual 137, 3) := by decide +kernel
theorem dX5_bakeAll_123 : decode cX5_bakeAll 123 = .ok (.istore_n 3, 1) := by decide +kernel
theorem dX5_bakeAll_124 : decode cX5_bakeAll 124 = .ok (.iinc 5 1, 3) := by decide +kernel
theorem dX5_bakeAll_127 : decode cX5_bakeAll 127 = .ok (.goto (-76), 3) := by decide +kernel
theorem dX5_bakeAll_130 : decode cX5_bakeAll 130 = .ok (.aload_n 0, 1) := by decide +kernel
theorem dX5_bakeAll_131 : decode cX5_bakeAll 131 = .ok (.iload 4, 2) := by decide +kernel
theorem dX5_bakeAll_133 : decode cX5_bakeAll 133 = .ok (.ifCond .eq 7, 3) := by decide +kernel
theorem dX5_bakeAll_136 : decode cX5_bakeAll 136 = .ok (.iconst 0, 1) := by decide +kernel
theorem dX5_bakeAll_137 : decode cX5_bakeAll 137 = .ok (.goto 4, 3) := by decide +kernel
theorem dX5_bakeAll_140 : decode cX5_bakeAll 140 = .ok (.iconst 1, 1) := by decide +kernel
theorem dX5_bakeAll_141 : decode cX5_bakeAll 141 = .ok (.invokevirtual 103, 3) := by decide +kernel
theorem dX5_bakeAll_144 : decode cX5_bakeAll 144 = .ok (.ifCond .ne 47, 3) := by decide +kernel
theorem dX5_bakeAll_147 : decode cX5_bakeAll 147 = .ok (.aload_n 0, 1) := by decide +kernel
theorem dX5_bakeAll_148 : decode cX5_bakeAll 148 = .ok (.iload_n 1, 1) := by decide +kernel
theorem dX5_bakeAll_149 : decode cX5_bakeAll 149 = .ok (.putfield 100, 3) := by decide +kernel
theorem dX5_bakeAll_152 : decode cX5_bakeAll 152 = .ok (.aload_n 0, 1) := by decide +kernel
theorem dX5_bakeAll_153 : decode cX5_bakeAll 153 = .ok (.iload_n 2, 1) := by decide +kernel
theorem dX5_bakeAll_154 : decode cX5_bakeAll 154 = .ok (.putfield 110, 3) := by decide +kernel
theorem dX5_bakeAll_157 : decode cX5_bakeAll 157 = .ok (.iconst 0, 1) := by decide +kernel
theorem dX5_bakeAll_158 : decode cX5_bakeAll 158 = .ok (.istore 5, 2) := by decide +kernel
theorem dX5_bakeAll_160 : decode cX5_bakeAll 160 = .ok (.iload 5, 2) := by decide +kernel
theorem dX5_bakeAll_162 : decode cX5_bakeAll 162 = .ok (.aload_n 0, 1) := by decide +kernel
theorem dX5_bakeAll_163 : decode cX5_bakeAll 163 = .ok (.getfield 93, 3) := by decide +kernel
theorem dX5_bakeAll_166 : decode cX5_bakeAll 166 = .ok (.if_icmp .ge 23, 3) := by decide +kernel
theorem dX5_bakeAll_169 : decode cX5_bakeAll 169 = .ok (.aload_n 0, 1) := by decide +kernel
theorem dX5_bakeAll_170 : decode cX5_bakeAll 170 = .ok (.getfield 25, 3) := by decide +kernel
theorem dX5_bakeAll_173 : decode cX5_bakeAll 173 = .ok (.iload 5, 2) := by decide +kernel
theorem dX5_bakeAll_175 : decode cX5_bakeAll 175 = .ok (.aload_n 0, 1) := by decide +kernel
theorem dX5_bakeAll_176 : decode cX5_bakeAll 176 = .ok (.getfield 87, 3) := by decide +kernel
theorem dX5_bakeAll_179 : decode cX5_bakeAll 179 = .ok (.iload 5, 2) := by decide +kernel
theorem dX5_bakeAll_181 : decode cX5_bakeAll 181 = .ok (.iaload, 1) := by decide +kernel
theorem dX5_bakeAll_182 : decode cX5_bakeAll 182 = .ok (.iastore, 1) := by decide +kernel
theorem dX5_bakeAll_183 : decode cX5_bakeAll 183 = .ok (.iinc 5 1, 3) := by decide +kernel
theorem dX5_bakeAll_186 : decode cX5_bakeAll 186 = .ok (.goto (-26), 3) := by decide +kernel
theorem dX5_bakeAll_189 : decode cX5_bakeAll 189 = .ok (.iconst 0, 1) := by decide +kernel
theorem dX5_bakeAll_190 : decode cX5_bakeAll 190 = .ok (.ireturn, 1) := by decide +kernel
theorem dX5_bakeAll_191 : decode cX5_bakeAll 191 = .ok (.aload_n 0, 1) := by decide +kernel
theorem dX5_bakeAll_192 : decode cX5_bakeAll 192 = .ok (.getfield 100, 3) := by decide +kernel
theorem dX5_bakeAll_195 : decode cX5_bakeAll 195 = .ok (.iload_n 1, 1) := by decide +kernel
theorem dX5_bakeAll_196 : decode cX5_bakeAll 196 = .ok (.isub, 1) := by decide +kernel
theorem dX5_bakeAll_197 : decode cX5_bakeAll 197 = .ok (.ireturn, 1) := by decide +kernel
theorem dX5_isFresh_0 : decode cX5_isFresh 0 = .ok (.aload_n 0, 1) := by decide +kernel
theorem dX5_isFresh_1 : decode cX5_isFresh 1 = .ok (.aload_n 0, 1) := by decide +kernel
theorem dX5_isFresh_2 : decode cX5_isFresh 2 = .ok (.iload_n 1, 1) := by decide +kernel
theorem dX5_isFresh_3 : decode cX5_isFresh 3 = .ok (.invokevirtual 107, 3) := by decide +kernel
theorem dX5_isFresh_6 : decode cX5_isFresh 6 = .ok (.ifCond .eq 7, 3) := by decide +kernel
theorem dX5_isFresh_9 : decode cX5_isFresh 9 = .ok (.iconst 0, 1) := by decide +kernel
theorem dX5_isFresh_10 : decode cX5_isFresh 10 = .ok (.goto 4, 3) := by decide +kernel
theorem dX5_isFresh_13 : decode cX5_isFresh 13 = .ok (.iconst 1, 1) := by decide +kernel
theorem dX5_isFresh_14 : decode cX5_isFresh 14 = .ok (.invokevirtual 103, 3) := by decide +kernel
theorem dX5_isFresh_17 : decode cX5_isFresh 17 = .ok (.ifCond .eq 15, 3) := by decide +kernel
theorem dX5_isFresh_20 : decode cX5_isFresh 20 = .ok (.aload_n 0, 1) := by decide +kernel
theorem dX5_isFresh_21 : decode cX5_isFresh 21 = .ok (.iload_n 1, 1) := by decide +kernel
theorem dX5_isFresh_22 : decode cX5_isFresh 22 = .ok (.invokevirtual 141, 3) := by decide +kernel
theorem dX5_isFresh_25 : decode cX5_isFresh 25 = .ok (.ifCond .eq 7, 3) := by decide +kernel
theorem dX5_isFresh_28 : decode cX5_isFresh 28 = .ok (.iconst 1, 1) := by decide +kernel
theorem dX5_isFresh_29 : decode cX5_isFresh 29 = .ok (.goto 4, 3) := by decide +kernel
theorem dX5_isFresh_32 : decode cX5_isFresh 32 = .ok (.iconst 0, 1) := by decide +kernel
theorem dX5_isFresh_33 : decode cX5_isFresh 33 = .ok (.ireturn, 1) := by decide +kernel
theorem dX5_isFreshAnew_0 : decode cX5_isFreshAnew 0 = .ok (.aload_n 0, 1) := by decide +kernel
theorem dX5_isFreshAnew_1 : decode cX5_isFreshAnew 1 = .ok (.aload_n 0, 1) := by decide +kernel
theorem dX5_isFreshAnew_2 : decode cX5_isFreshAnew 2 = .ok (.iload_n 1, 1) := by decide +kernel
theorem dX5_isFreshAnew_3 : decode cX5_isFreshAnew 3 = .ok (.invokevirtual 107, 3) := by decide +kernel
theorem dX5_isFreshAnew_6 : decode cX5_isFreshAnew 6 = .ok (.ifCond .eq 7, 3) := by decide +kernel
theorem dX5_isFreshAnew_9 : decode cX5_isFreshAnew 9 = .ok (.iconst 0, 1) := by decide +kernel
theorem dX5_isFreshAnew_10 : decode cX5_isFreshAnew 10 = .ok (.goto 4, 3) := by decide +kernel
theorem dX5_isFreshAnew_13 : decode cX5_isFreshAnew 13 = .ok (.iconst 1, 1) := by decide +kernel
theorem dX5_isFreshAnew_14 : decode cX5_isFreshAnew 14 = .ok (.invokevirtual 103, 3) := by decide +kernel
theorem dX5_isFreshAnew_17 : decode cX5_isFreshAnew 17 = .ok (.ifCond .eq 15, 3) := by decide +kernel
theorem dX5_isFreshAnew_20 : decode cX5_isFreshAnew 20 = .ok (.aload_n 0, 1) := by decide +kernel
theorem dX5_isFreshAnew_21 : decode cX5_isFreshAnew 21 = .ok (.iload_n 1, 1) := by decide +kernel
theorem dX5_isFreshAnew_22 : decode cX5_isFreshAnew 22 = .ok (.invokevirtual 141, 3) := by decide +kernel
theorem dX5_isFreshAnew_25 : decode cX5_isFreshAnew 25 = .ok (.ifCond .eq 7, 3) := by decide +kernel
theorem dX5_isFreshAnew_28 : decode cX5_isFreshAnew 28 = .ok (.iconst 1, 1) := by decide +kernel
theorem dX5_isFreshAnew_29 : decode cX5_isFreshAnew 29 = .ok (.goto 4, 3) := by decide +kernel
theorem dX5_isFreshAnew_32 : decode cX5_isFreshAnew 32 = .ok (.iconst 0, 1) := by decide +kernel
theorem dX5_isFreshAnew_33 : decode cX5_isFreshAnew 33 = .ok (.ireturn, 1) := by decide +kernel
theorem dX5_layers_0 : decode cX5_layers 0 = .ok (.aload_n 0, 1) := by decide +kernel
theorem dX5_layers_1 : decode cX5_layers 1 = .ok (.iconst 0, 1) := by decide +kernel
theorem dX5_layers_2 : decode cX5_layers 2 = .ok (.putfield 90, 3) := by decide +kernel
theorem dX5_layers_5 : decode cX5_layers 5 = .ok (.aload_n 0, 1) := by decide +kernel
theorem dX5_layers_6 : decode cX5_layers 6 = .ok (.getfield 110, 3) := by decide +kernel
theorem dX5_layers_9 : decode cX5_layers 9 = .ok (.ireturn, 1) := by decide +kernel
theorem dX5_bakes_0 : decode cX5_bakes 0 = .ok (.aload_n 0, 1) := by decide +kernel
theorem dX5_bakes_1 : decode cX5_bakes 1 = .ok (.iconst 0, 1) := by decide +kernel
theorem dX5_bakes_2 : decode cX5_bakes 2 = .ok (.putfield 90, 3) := by decide +kernel
theorem dX5_bakes_5 : decode cX5_bakes 5 = .ok (.aload_n 0, 1) := by decide +kernel
theorem dX5_bakes_6 : decode cX5_bakes 6 = .ok (.getfield 100, 3) := by decide +kernel
theorem dX5_bakes_9 : decode cX5_bakes 9 = .ok (.ireturn, 1) := by decide +kernel
theorem dX5_latest_0 : decode cX5_latest 0 = .ok (.aload_n 0, 1) := by decide +kernel
theorem dX5_latest_1 : decode cX5_latest 1 = .ok (.aload_n 0, 1) := by decide +kernel
theorem dX5_latest_2 : decode cX5_latest 2 = .ok (.iload_n 1, 1) := by decide +kernel
theorem dX5_latest_3 : decode cX5_latest 3 = .ok (.invokevirtual 107, 3) := by decide +kernel
theorem dX5_latest_6 : decode cX5_latest 6 = .ok (.ifCond .eq 7, 3) := by decide +kernel
theorem dX5_latest_9 : decode cX5_latest 9 = .ok (.iconst 0, 1) := by decide +kernel
theorem dX5_latest_10 : decode cX5_latest 10 = .ok (.goto 4, 3) := by decide +kernel
theorem dX5_latest_13 : decode cX5_latest 13 = .ok (.iconst 1, 1) := by decide +kernel
theorem dX5_latest_14 : decode cX5_latest 14 = .ok (.invokevirtual 103, 3) := by decide +kernel
theorem dX5_latest_17 : decode cX5_latest 17 = .ok (.ifCond .eq 12, 3) := by decide +kernel
theorem dX5_latest_20 : decode cX5_latest 20 = .ok (.aload_n 0, 1) := by decide +kernel
theorem dX5_latest_21 : decode cX5_latest 21 = .ok (.getfield 25, 3) := by decide +kernel
theorem dX5_latest_24 : decode cX5_latest 24 = .ok (.iload_n 1, 1) := by decide +kernel
theorem dX5_latest_25 : decode cX5_latest 25 = .ok (.iaload, 1) := by decide +kernel
theorem dX5_latest_26 : decode cX5_latest 26 = .ok (.goto 4, 3) := by decide +kernel
theorem dX5_latest_29 : decode cX5_latest 29 = .ok (.iconst 0, 1) := by decide +kernel
theorem dX5_latest_30 : decode cX5_latest 30 = .ok (.ireturn, 1) := by decide +kernel
theorem dX5_top_0 : decode cX5_top 0 = .ok (.aload_n 0, 1) := by decide +kernel
theorem dX5_top_1 : decode cX5_top 1 = .ok (.aload_n 0, 1) := by decide +kernel
theorem dX5_top_2 : decode cX5_top 2 = .ok (.iload_n 1, 1) := by decide +kernel
theorem dX5_top_3 : decode cX5_top 3 = .ok (.invokevirtual 144, 3) := by decide +kernel
theorem dX5_top_6 : decode cX5_top 6 = .ok (.ifCond .eq 7, 3) := by decide +kernel
theorem dX5_top_9 : decode cX5_top 9 = .ok (.iconst 0, 1) := by decide +kernel
theorem dX5_top_10 : decode cX5_top 10 = .ok (.goto 4, 3) := by decide +kernel
theorem dX5_top_13 : decode cX5_top 13 = .ok (.iconst 1, 1) := by decide +kernel
theorem dX5_top_14 : decode cX5_top 14 = .ok (.invokevirtual 103, 3) := by decide +kernel
theorem dX5_top_17 : decode cX5_top 17 = .ok (.ifCond .eq 12, 3) := by decide +kernel
theorem dX5_top_20 : decode cX5_top 20 = .ok (.aload_n 0, 1) := by decide +kernel
theorem dX5_top_21 : decode cX5_top 21 = .ok (.getfield 40, 3) := by decide +kernel
theorem dX5_top_24 : decode cX5_top 24 = .ok (.iload_n 1, 1) := by decide +kernel
theorem dX5_top_25 : decode cX5_top 25 = .ok (.iaload, 1) := by decide +kernel
theorem dX5_top_26 : decode cX5_top 26 = .ok (.goto 4, 3) := by decide +kernel
theorem dX5_top_29 : decode cX5_top 29 = .ok (.iconst 0, 1) := by decide +kernel
theorem dX5_top_30 : decode cX5_top 30 = .ok (.ireturn, 1) := by decide +kernel
theorem dX5_running_0 : decode cX5_running 0 = .ok (.iconst 0, 1) := by decide +kernel
theorem dX5_running_1 : decode cX5_running 1 = .ok (.istore_n 2, 1) := by decide +kernel
theorem dX5_running_2 : decode cX5_running 2 = .ok (.iconst 0, 1) := by decide +kernel
theorem dX5_running_3 : decode cX5_running 3 = .ok (.istore_n 3, 1) := by decide +kernel
theorem dX5_running_4 : decode cX5_running 4 = .ok (.iload_n 3, 1) := by decide +kernel
theorem dX5_running_5 : decode cX5_running 5 = .ok (.aload_n 0, 1) := by decide +kernel
theorem dX5_running_6 : decode cX5_running 6 = .ok (.getfield 147, 3) := by decide +kernel
theorem dX5_running_9 : decode cX5_running 9 = .ok (.if_icmp .ge 27, 3) := by decide +kernel
theorem dX5_running_12 : decode cX5_running 12 = .ok (.iload_n 2, 1) := by decide +kernel
theorem dX5_running_13 : decode cX5_running 13 = .ok (.aload_n 0, 1) := by decide +kernel
theorem dX5_running_14 : decode cX5_running 14 = .ok (.getfield 81, 3) := by decide +kernel
theorem dX5_running_17 : decode cX5_running 17 = .ok (.iload_n 3, 1) := by decide +kernel
theorem dX5_running_18 : decode cX5_running 18 = .ok (.iaload, 1) := by decide +kernel
theorem dX5_running_19 : decode cX5_running 19 = .ok (.iload_n 1, 1) := by decide +kernel
theorem dX5_running_20 : decode cX5_running 20 = .ok (.if_icmp .ne 7, 3) := by decide +kernel
theorem dX5_running_23 : decode cX5_running 23 = .ok (.iconst 1, 1) := by decide +kernel
theorem dX5_running_24 : decode cX5_running 24 = .ok (.goto 4, 3) := by decide +kernel
theorem dX5_running_27 : decode cX5_running 27 = .ok (.iconst 0, 1) := by decide +kernel
theorem dX5_running_28 : decode cX5_running 28 = .ok (.iadd, 1) := by decide +kernel
theorem dX5_running_29 : decode cX5_running 29 = .ok (.istore_n 2, 1) := by decide +kernel
theorem dX5_running_30 : decode cX5_running 30 = .ok (.iinc 3 1, 3) := by decide +kernel
theorem dX5_running_33 : decode cX5_running 33 = .ok (.goto (-29), 3) := by decide +kernel
theorem dX5_running_36 : decode cX5_running 36 = .ok (.iload_n 2, 1) := by decide +kernel
theorem dX5_running_37 : decode cX5_running 37 = .ok (.ireturn, 1) := by decide +kernel
theorem dX5_isTooOld_0 : decode cX5_isTooOld 0 = .ok (.aload_n 0, 1) := by decide +kernel
theorem dX5_isTooOld_1 : decode cX5_isTooOld 1 = .ok (.getfield 130, 3) := by decide +kernel
theorem dX5_isTooOld_4 : decode cX5_isTooOld 4 = .ok (.aload_n 0, 1) := by decide +kernel
theorem dX5_isTooOld_5 : decode cX5_isTooOld 5 = .ok (.getfield 43, 3) := by decide +kernel
theorem dX5_isTooOld_8 : decode cX5_isTooOld 8 = .ok (.iload_n 1, 1) := by decide +kernel
theorem dX5_isTooOld_9 : decode cX5_isTooOld 9 = .ok (.iaload, 1) := by decide +kernel
theorem dX5_isTooOld_10 : decode cX5_isTooOld 10 = .ok (.isub, 1) := by decide +kernel
theorem dX5_isTooOld_11 : decode cX5_isTooOld 11 = .ok (.aload_n 0, 1) := by decide +kernel
theorem dX5_isTooOld_12 : decode cX5_isTooOld 12 = .ok (.getfield 65, 3) := by decide +kernel
theorem dX5_isTooOld_15 : decode cX5_isTooOld 15 = .ok (.if_icmp .le 7, 3) := by decide +kernel
theorem dX5_isTooOld_18 : decode cX5_isTooOld 18 = .ok (.iconst 1, 1) := by decide +kernel
theorem dX5_isTooOld_19 : decode cX5_isTooOld 19 = .ok (.goto 4, 3) := by decide +kernel
theorem dX5_isTooOld_22 : decode cX5_isTooOld 22 = .ok (.iconst 0, 1) := by decide +kernel
theorem dX5_isTooOld_23 : decode cX5_isTooOld 23 = .ok (.ireturn, 1) := by decide +kernel
theorem dX5_test_0 : decode cX5_test 0 = .ok (.aload_n 0, 1) := by decide +kernel
theorem dX5_test_1 : decode cX5_test 1 = .ok (.iload_n 1, 1) := by decide +kernel
theorem dX5_test_2 : decode cX5_test 2 = .ok (.invokevirtual 144, 3) := by decide +kernel
theorem dX5_test_5 : decode cX5_test 5 = .ok (.istore_n 3, 1) := by decide +kernel
theorem dX5_test_6 : decode cX5_test 6 = .ok (.aload_n 0, 1) := by decide +kernel
theorem dX5_test_7 : decode cX5_test 7 = .ok (.iload_n 3, 1) := by decide +kernel
theorem dX5_test_8 : decode cX5_test 8 = .ok (.ifCond .ne 7, 3) := by decide +kernel
theorem dX5_test_11 : decode cX5_test 11 = .ok (.iconst 1, 1) := by decide +kernel
theorem dX5_test_12 : decode cX5_test 12 = .ok (.goto 17, 3) := by decide +kernel
theorem dX5_test_15 : decode cX5_test 15 = .ok (.aload_n 0, 1) := by decide +kernel
theorem dX5_test_16 : decode cX5_test 16 = .ok (.getfield 53, 3) := by decide +kernel
theorem dX5_test_19 : decode cX5_test 19 = .ok (.iload_n 1, 1) := by decide +kernel
theorem dX5_test_20 : decode cX5_test 20 = .ok (.baload, 1) := by decide +kernel
theorem dX5_test_21 : decode cX5_test 21 = .ok (.ifCond .eq 7, 3) := by decide +kernel
theorem dX5_test_24 : decode cX5_test 24 = .ok (.iconst 2, 1) := by decide +kernel
theorem dX5_test_25 : decode cX5_test 25 = .ok (.goto 4, 3) := by decide +kernel
theorem dX5_test_28 : decode cX5_test 28 = .ok (.iconst 0, 1) := by decide +kernel
theorem dX5_test_29 : decode cX5_test 29 = .ok (.invokevirtual 103, 3) := by decide +kernel
theorem dX5_test_32 : decode cX5_test 32 = .ok (.ifCond .ne 5, 3) := by decide +kernel
theorem dX5_test_35 : decode cX5_test 35 = .ok (.iconst 0, 1) := by decide +kernel
theorem dX5_test_36 : decode cX5_test 36 = .ok (.ireturn, 1) := by decide +kernel
theorem dX5_test_37 : decode cX5_test 37 = .ok (.aload_n 0, 1) := by decide +kernel
theorem dX5_test_38 : decode cX5_test 38 = .ok (.getfield 56, 3) := by decide +kernel
theorem dX5_test_41 : decode cX5_test 41 = .ok (.iload_n 1, 1) := by decide +kernel
theorem dX5_test_42 : decode cX5_test 42 = .ok (.aload_n 0, 1) := by decide +kernel
theorem dX5_test_43 : decode cX5_test 43 = .ok (.getfield 56, 3) := by decide +kernel
theorem dX5_test_46 : decode cX5_test 46 = .ok (.iload_n 1, 1) := by decide +kernel
theorem dX5_test_47 : decode cX5_test 47 = .ok (.baload, 1) := by decide +kernel
theorem dX5_test_48 : decode cX5_test 48 = .ok (.ifCond .ne 7, 3) := by decide +kernel
theorem dX5_test_51 : decode cX5_test 51 = .ok (.iload_n 2, 1) := by decide +kernel
theorem dX5_test_52 : decode cX5_test 52 = .ok (.ifCond .eq 7, 3) := by decide +kernel
theorem dX5_test_55 : decode cX5_test 55 = .ok (.iconst 1, 1) := by decide +kernel
theorem dX5_test_56 : decode cX5_test 56 = .ok (.goto 4, 3) := by decide +kernel
theorem dX5_test_59 : decode cX5_test 59 = .ok (.iconst 0, 1) := by decide +kernel
theorem dX5_test_60 : decode cX5_test 60 = .ok (.bastore, 1) := by decide +kernel
theorem dX5_test_61 : decode cX5_test 61 = .ok (.aload_n 0, 1) := by decide +kernel
theorem dX5_test_62 : decode cX5_test 62 = .ok (.getfield 49, 3) := by decide +kernel
theorem dX5_test_65 : decode cX5_test 65 = .ok (.iload_n 1, 1) := by decide +kernel
theorem dX5_test_66 : decode cX5_test 66 = .ok (.aload_n 0, 1) := by decide +kernel
theorem dX5_test_67 : decode cX5_test 67 = .ok (.getfield 49, 3) := by decide +kernel
theorem dX5_test_70 : decode cX5_test 70 = .ok (.iload_n 1, 1) := by decide +kernel
theorem dX5_test_71 : decode cX5_test 71 = .ok (.baload, 1) := by decide +kernel
theorem dX5_test_72 : decode cX5_test 72 = .ok (.ifCond .ne 7, 3) := by decide +kernel
theorem dX5_test_75 : decode cX5_test 75 = .ok (.iload_n 2, 1) := by decide +kernel
theorem dX5_test_76 : decode cX5_test 76 = .ok (.ifCond .ne 7, 3) := by decide +kernel
theorem dX5_test_79 : decode cX5_test 79 = .ok (.iconst 1, 1) := by decide +kernel
theorem dX5_test_80 : decode cX5_test 80 = .ok (.goto 4, 3) := by decide +kernel
theorem dX5_test_83 : decode cX5_test 83 = .ok (.iconst 0, 1) := by decide +kernel
theorem dX5_test_84 : decode cX5_test 84 = .ok (.bastore, 1) := by decide +kernel
theorem dX5_test_85 : decode cX5_test 85 = .ok (.aload_n 0, 1) := by decide +kernel
theorem dX5_test_86 : decode cX5_test 86 = .ok (.getfield 49, 3) := by decide +kernel
theorem dX5_test_89 : decode cX5_test 89 = .ok (.iload_n 1, 1) := by decide +kernel
theorem dX5_test_90 : decode cX5_test 90 = .ok (.baload, 1) := by decide +kernel
theorem dX5_test_91 : decode cX5_test 91 = .ok (.ireturn, 1) := by decide +kernel
theorem dX5_hold_0 : decode cX5_hold 0 = .ok (.aload_n 0, 1) := by decide +kernel
theorem dX5_hold_1 : decode cX5_hold 1 = .ok (.iload_n 1, 1) := by decide +kernel
theorem dX5_hold_2 : decode cX5_hold 2 = .ok (.invokevirtual 144, 3) := by decide +kernel
theorem dX5_hold_5 : decode cX5_hold 5 = .ok (.istore_n 2, 1) := by decide +kernel
theorem dX5_hold_6 : decode cX5_hold 6 = .ok (.aload_n 0, 1) := by decide +kernel
theorem dX5_hold_7 : decode cX5_hold 7 = .ok (.iload_n 2, 1) := by decide +kernel
theorem dX5_hold_8 : decode cX5_hold 8 = .ok (.ifCond .ne 7, 3) := by decide +kernel
theorem dX5_hold_11 : decode cX5_hold 11 = .ok (.iconst 1, 1) := by decide +kernel
theorem dX5_hold_12 : decode cX5_hold 12 = .ok (.goto 26, 3) := by decide +kernel
theorem dX5_hold_15 : decode cX5_hold 15 = .ok (.aload_n 0, 1) := by decide +kernel
theorem dX5_hold_16 : decode cX5_hold 16 = .ok (.getfield 53, 3) := by decide +kernel
theorem dX5_hold_19 : decode cX5_hold 19 = .ok (.iload_n 1, 1) := by decide +kernel
theorem dX5_hold_20 : decode cX5_hold 20 = .ok (.baload, 1) := by decide +kernel
theorem dX5_hold_21 : decode cX5_hold 21 = .ok (.ifCond .ne 12, 3) := by decide +kernel
theorem dX5_hold_24 : decode cX5_hold 24 = .ok (.aload_n 0, 1) := by decide +kernel
theorem dX5_hold_25 : decode cX5_hold 25 = .ok (.getfield 49, 3) := by decide +kernel
theorem dX5_hold_28 : decode cX5_hold 28 = .ok (.iload_n 1, 1) := by decide +kernel
theorem dX5_hold_29 : decode cX5_hold 29 = .ok (.baload, 1) := by decide +kernel
theorem dX5_hold_30 : decode cX5_hold 30 = .ok (.ifCond .eq 7, 3) := by decide +kernel
theorem dX5_hold_33 : decode cX5_hold 33 = .ok (.iconst 2, 1) := by decide +kernel
theorem dX5_hold_34 : decode cX5_hold 34 = .ok (.goto 4, 3) := by decide +kernel
theorem dX5_hold_37 : decode cX5_hold 37 = .ok (.iconst 0, 1) := by decide +kernel
theorem dX5_hold_38 : decode cX5_hold 38 = .ok (.invokevirtual 103, 3) := by decide +kernel
theorem dX5_hold_41 : decode cX5_hold 41 = .ok (.ifCond .ne 5, 3) := by decide +kernel
theorem dX5_hold_44 : decode cX5_hold 44 = .ok (.iconst 0, 1) := by decide +kernel
theorem dX5_hold_45 : decode cX5_hold 45 = .ok (.ireturn, 1) := by decide +kernel
theorem dX5_hold_46 : decode cX5_hold 46 = .ok (.aload_n 0, 1) := by decide +kernel
theorem dX5_hold_47 : decode cX5_hold 47 = .ok (.getfield 49, 3) := by decide +kernel
theorem dX5_hold_50 : decode cX5_hold 50 = .ok (.iload_n 1, 1) := by decide +kernel
theorem dX5_hold_51 : decode cX5_hold 51 = .ok (.iconst 1, 1) := by decide +kernel
theorem dX5_hold_52 : decode cX5_hold 52 = .ok (.bastore, 1) := by decide +kernel
theorem dX5_hold_53 : decode cX5_hold 53 = .ok (.aload_n 0, 1) := by decide +kernel
theorem dX5_hold_54 : decode cX5_hold 54 = .ok (.iload_n 1, 1) := by decide +kernel
theorem dX5_hold_55 : decode cX5_hold 55 = .ok (.invokevirtual 150, 3) := by decide +kernel
theorem dX5_hold_58 : decode cX5_hold 58 = .ok (.ireturn, 1) := by decide +kernel
theorem dX5_raise_0 : decode cX5_raise 0 = .ok (.aload_n 0, 1) := by decide +kernel
theorem dX5_raise_1 : decode cX5_raise 1 = .ok (.iload_n 1, 1) := by decide +kernel
theorem dX5_raise_2 : decode cX5_raise 2 = .ok (.invokevirtual 144, 3) := by decide +kernel
theorem dX5_raise_5 : decode cX5_raise 5 = .ok (.istore_n 2, 1) := by decide +kernel
theorem dX5_raise_6 : decode cX5_raise 6 = .ok (.aload_n 0, 1) := by decide +kernel
theorem dX5_raise_7 : decode cX5_raise 7 = .ok (.iload_n 2, 1) := by decide +kernel
theorem dX5_raise_8 : decode cX5_raise 8 = .ok (.ifCond .ne 7, 3) := by decide +kernel
theorem dX5_raise_11 : decode cX5_raise 11 = .ok (.iconst 1, 1) := by decide +kernel
theorem dX5_raise_12 : decode cX5_raise 12 = .ok (.goto 45, 3) := by decide +kernel
theorem dX5_raise_15 : decode cX5_raise 15 = .ok (.aload_n 0, 1) := by decide +kernel
theorem dX5_raise_16 : decode cX5_raise 16 = .ok (.getfield 53, 3) := by decide +kernel
theorem dX5_raise_19 : decode cX5_raise 19 = .ok (.iload_n 1, 1) := by decide +kernel
theorem dX5_raise_20 : decode cX5_raise 20 = .ok (.baload, 1) := by decide +kernel
theorem dX5_raise_21 : decode cX5_raise 21 = .ok (.ifCond .ne 31, 3) := by decide +kernel
theorem dX5_raise_24 : decode cX5_raise 24 = .ok (.aload_n 0, 1) := by decide +kernel
theorem dX5_raise_25 : decode cX5_raise 25 = .ok (.getfield 49, 3) := by decide +kernel
theorem dX5_raise_28 : decode cX5_raise 28 = .ok (.iload_n 1, 1) := by decide +kernel
theorem dX5_raise_29 : decode cX5_raise 29 = .ok (.baload, 1) := by decide +kernel
theorem dX5_raise_30 : decode cX5_raise 30 = .ok (.ifCond .ne 22, 3) := by decide +kernel
theorem dX5_raise_33 : decode cX5_raise 33 = .ok (.aload_n 0, 1) := by decide +kernel
theorem dX5_raise_34 : decode cX5_raise 34 = .ok (.getfield 46, 3) := by decide +kernel
theorem dX5_raise_37 : decode cX5_raise 37 = .ok (.iload_n 1, 1) := by decide +kernel
theorem dX5_raise_38 : decode cX5_raise 38 = .ok (.iaload, 1) := by decide +kernel
theorem dX5_raise_39 : decode cX5_raise 39 = .ok (.iconst 2, 1) := by decide +kernel
theorem dX5_raise_40 : decode cX5_raise 40 = .ok (.if_icmp .eq 12, 3) := by decide +kernel
theorem dX5_raise_43 : decode cX5_raise 43 = .ok (.aload_n 0, 1) := by decide +kernel
theorem dX5_raise_44 : decode cX5_raise 44 = .ok (.getfield 56, 3) := by decide +kernel
theorem dX5_raise_47 : decode cX5_raise 47 = .ok (.iload_n 1, 1) := by decide +kernel
theorem dX5_raise_48 : decode cX5_raise 48 = .ok (.baload, 1) := by decide +kernel
theorem dX5_raise_49 : decode cX5_raise 49 = .ok (.ifCond .ne 7, 3) := by decide +kernel
theorem dX5_raise_52 : decode cX5_raise 52 = .ok (.iconst 2, 1) := by decide +kernel
theorem dX5_raise_53 : decode cX5_raise 53 = .ok (.goto 4, 3) := by decide +kernel
theorem dX5_raise_56 : decode cX5_raise 56 = .ok (.iconst 0, 1) := by decide +kernel
theorem dX5_raise_57 : decode cX5_raise 57 = .ok (.invokevirtual 103, 3) := by decide +kernel
theorem dX5_raise_60 : decode cX5_raise 60 = .ok (.ifCond .ne 5, 3) := by decide +kernel
theorem dX5_raise_63 : decode cX5_raise 63 = .ok (.iconst 0, 1) := by decide +kernel
theorem dX5_raise_64 : decode cX5_raise 64 = .ok (.ireturn, 1) := by decide +kernel
theorem dX5_raise_65 : decode cX5_raise 65 = .ok (.aload_n 0, 1) := by decide +kernel
theorem dX5_raise_66 : decode cX5_raise 66 = .ok (.getfield 46, 3) := by decide +kernel
theorem dX5_raise_69 : decode cX5_raise 69 = .ok (.iload_n 1, 1) := by decide +kernel
theorem dX5_raise_70 : decode cX5_raise 70 = .ok (.dup2, 1) := by decide +kernel
theorem dX5_raise_71 : decode cX5_raise 71 = .ok (.iaload, 1) := by decide +kernel
theorem dX5_raise_72 : decode cX5_raise 72 = .ok (.iconst 1, 1) := by decide +kernel
theorem dX5_raise_73 : decode cX5_raise 73 = .ok (.iadd, 1) := by decide +kernel
theorem dX5_raise_74 : decode cX5_raise 74 = .ok (.iastore, 1) := by decide +kernel
theorem dX5_raise_75 : decode cX5_raise 75 = .ok (.aload_n 0, 1) := by decide +kernel
theorem dX5_raise_76 : decode cX5_raise 76 = .ok (.getfield 56, 3) := by decide +kernel
theorem dX5_raise_79 : decode cX5_raise 79 = .ok (.iload_n 1, 1) := by decide +kernel
theorem dX5_raise_80 : decode cX5_raise 80 = .ok (.iconst 0, 1) := by decide +kernel
theorem dX5_raise_81 : decode cX5_raise 81 = .ok (.bastore, 1) := by decide +kernel
theorem dX5_raise_82 : decode cX5_raise 82 = .ok (.aload_n 0, 1) := by decide +kernel
theorem dX5_raise_83 : decode cX5_raise 83 = .ok (.getfield 46, 3) := by decide +kernel
theorem dX5_raise_86 : decode cX5_raise 86 = .ok (.iload_n 1, 1) := by decide +kernel
theorem dX5_raise_87 : decode cX5_raise 87 = .ok (.iaload, 1) := by decide +kernel
theorem dX5_raise_88 : decode cX5_raise 88 = .ok (.ireturn, 1) := by decide +kernel
theorem dX5_copy_0 : decode cX5_copy 0 = .ok (.aload_n 0, 1) := by decide +kernel
theorem dX5_copy_1 : decode cX5_copy 1 = .ok (.iload_n 1, 1) := by decide +kernel
theorem dX5_copy_2 : decode cX5_copy 2 = .ok (.invokevirtual 144, 3) := by decide +kernel
theorem dX5_copy_5 : decode cX5_copy 5 = .ok (.istore_n 3, 1) := by decide +kernel
theorem dX5_copy_6 : decode cX5_copy 6 = .ok (.iload_n 2, 1) := by decide +kernel
theorem dX5_copy_7 : decode cX5_copy 7 = .ok (.iconst 0, 1) := by decide +kernel
theorem dX5_copy_8 : decode cX5_copy 8 = .ok (.iconst 2, 1) := by decide +kernel
theorem dX5_copy_9 : decode cX5_copy 9 = .ok (.invokestatic 96, 3) := by decide +kernel
theorem dX5_copy_12 : decode cX5_copy 12 = .ok (.istore 4, 2) := by decide +kernel
theorem dX5_copy_14 : decode cX5_copy 14 = .ok (.aload_n 0, 1) := by decide +kernel
theorem dX5_copy_15 : decode cX5_copy 15 = .ok (.iload_n 3, 1) := by decide +kernel
theorem dX5_copy_16 : decode cX5_copy 16 = .ok (.ifCond .ne 7, 3) := by decide +kernel
theorem dX5_copy_19 : decode cX5_copy 19 = .ok (.iconst 1, 1) := by decide +kernel
theorem dX5_copy_20 : decode cX5_copy 20 = .ok (.goto 40, 3) := by decide +kernel
theorem dX5_copy_23 : decode cX5_copy 23 = .ok (.iload 4, 2) := by decide +kernel
theorem dX5_copy_25 : decode cX5_copy 25 = .ok (.ifCond .ne 7, 3) := by decide +kernel
theorem dX5_copy_28 : decode cX5_copy 28 = .ok (.iconst 2, 1) := by decide +kernel
theorem dX5_copy_29 : decode cX5_copy 29 = .ok (.goto 31, 3) := by decide +kernel
theorem dX5_copy_32 : decode cX5_copy 32 = .ok (.aload_n 0, 1) := by decide +kernel
theorem dX5_copy_33 : decode cX5_copy 33 = .ok (.getfield 53, 3) := by decide +kernel
theorem dX5_copy_36 : decode cX5_copy 36 = .ok (.iload_n 1, 1) := by decide +kernel
theorem dX5_copy_37 : decode cX5_copy 37 = .ok (.baload, 1) := by decide +kernel
theorem dX5_copy_38 : decode cX5_copy 38 = .ok (.ifCond .ne 17, 3) := by decide +kernel
theorem dX5_copy_41 : decode cX5_copy 41 = .ok (.aload_n 0, 1) := by decide +kernel
theorem dX5_copy_42 : decode cX5_copy 42 = .ok (.getfield 59, 3) := by decide +kernel
theorem dX5_copy_45 : decode cX5_copy 45 = .ok (.iconst 3, 1) := by decide +kernel
theorem dX5_copy_46 : decode cX5_copy 46 = .ok (.iload_n 1, 1) := by decide +kernel
theorem dX5_copy_47 : decode cX5_copy 47 = .ok (.imul, 1) := by decide +kernel
theorem dX5_copy_48 : decode cX5_copy 48 = .ok (.iload_n 2, 1) := by decide +kernel
theorem dX5_copy_49 : decode cX5_copy 49 = .ok (.iadd, 1) := by decide +kernel
theorem dX5_copy_50 : decode cX5_copy 50 = .ok (.iaload, 1) := by decide +kernel
theorem dX5_copy_51 : decode cX5_copy 51 = .ok (.iconst (-1), 1) := by decide +kernel
theorem dX5_copy_52 : decode cX5_copy 52 = .ok (.if_icmp .eq 7, 3) := by decide +kernel
theorem dX5_copy_55 : decode cX5_copy 55 = .ok (.iconst 3, 1) := by decide +kernel
theorem dX5_copy_56 : decode cX5_copy 56 = .ok (.goto 4, 3) := by decide +kernel
theorem dX5_copy_59 : decode cX5_copy 59 = .ok (.iconst 0, 1) := by decide +kernel
theorem dX5_copy_60 : decode cX5_copy 60 = .ok (.invokevirtual 103, 3) := by decide +kernel
theorem dX5_copy_63 : decode cX5_copy 63 = .ok (.ifCond .ne 5, 3) := by decide +kernel
theorem dX5_copy_66 : decode cX5_copy 66 = .ok (.iconst 0, 1) := by decide +kernel
theorem dX5_copy_67 : decode cX5_copy 67 = .ok (.ireturn, 1) := by decide +kernel
theorem dX5_copy_68 : decode cX5_copy 68 = .ok (.aload_n 0, 1) := by decide +kernel
theorem dX5_copy_69 : decode cX5_copy 69 = .ok (.getfield 59, 3) := by decide +kernel
theorem dX5_copy_72 : decode cX5_copy 72 = .ok (.iconst 3, 1) := by decide +kernel
theorem dX5_copy_73 : decode cX5_copy 73 = .ok (.iload_n 1, 1) := by decide +kernel
theorem dX5_copy_74 : decode cX5_copy 74 = .ok (.imul, 1) := by decide +kernel
theorem dX5_copy_75 : decode cX5_copy 75 = .ok (.iload_n 2, 1) := by decide +kernel
theorem dX5_copy_76 : decode cX5_copy 76 = .ok (.iadd, 1) := by decide +kernel
theorem dX5_copy_77 : decode cX5_copy 77 = .ok (.aload_n 0, 1) := by decide +kernel
theorem dX5_copy_78 : decode cX5_copy 78 = .ok (.getfield 130, 3) := by decide +kernel
theorem dX5_copy_81 : decode cX5_copy 81 = .ok (.aload_n 0, 1) := by decide +kernel
theorem dX5_copy_82 : decode cX5_copy 82 = .ok (.getfield 62, 3) := by decide +kernel
theorem dX5_copy_85 : decode cX5_copy 85 = .ok (.iload_n 2, 1) := by decide +kernel
theorem dX5_copy_86 : decode cX5_copy 86 = .ok (.iaload, 1) := by decide +kernel
theorem dX5_copy_87 : decode cX5_copy 87 = .ok (.iadd, 1) := by decide +kernel
theorem dX5_copy_88 : decode cX5_copy 88 = .ok (.iastore, 1) := by decide +kernel
theorem dX5_copy_89 : decode cX5_copy 89 = .ok (.aload_n 0, 1) := by decide +kernel
theorem dX5_copy_90 : decode cX5_copy 90 = .ok (.getfield 130, 3) := by decide +kernel
theorem dX5_copy_93 : decode cX5_copy 93 = .ok (.aload_n 0, 1) := by decide +kernel
theorem dX5_copy_94 : decode cX5_copy 94 = .ok (.getfield 62, 3) := by decide +kernel
theorem dX5_copy_97 : decode cX5_copy 97 = .ok (.iload_n 2, 1) := by decide +kernel
theorem dX5_copy_98 : decode cX5_copy 98 = .ok (.iaload, 1) := by decide +kernel
theorem dX5_copy_99 : decode cX5_copy 99 = .ok (.iadd, 1) := by decide +kernel
theorem dX5_copy_100 : decode cX5_copy 100 = .ok (.ireturn, 1) := by decide +kernel
theorem dX5_setRules_0 : decode cX5_setRules 0 = .ok (.iload_n 1, 1) := by decide +kernel
theorem dX5_setRules_1 : decode cX5_setRules 1 = .ok (.iconst 0, 1) := by decide +kernel
theorem dX5_setRules_2 : decode cX5_setRules 2 = .ok (.iconst 2, 1) := by decide +kernel
theorem dX5_setRules_3 : decode cX5_setRules 3 = .ok (.invokestatic 96, 3) := by decide +kernel
theorem dX5_setRules_6 : decode cX5_setRules 6 = .ok (.ifCond .eq 38, 3) := by decide +kernel
theorem dX5_setRules_9 : decode cX5_setRules 9 = .ok (.iload_n 2, 1) := by decide +kernel
theorem dX5_setRules_10 : decode cX5_setRules 10 = .ok (.iconst 0, 1) := by decide +kernel
theorem dX5_setRules_11 : decode cX5_setRules 11 = .ok (.bipush 9, 2) := by decide +kernel
theorem dX5_setRules_13 : decode cX5_setRules 13 = .ok (.invokestatic 96, 3) := by decide +kernel
theorem dX5_setRules_16 : decode cX5_setRules 16 = .ok (.ifCond .eq 28, 3) := by decide +kernel
theorem dX5_setRules_19 : decode cX5_setRules 19 = .ok (.iload_n 3, 1) := by decide +kernel
theorem dX5_setRules_20 : decode cX5_setRules 20 = .ok (.iconst 0, 1) := by decide +kernel
theorem dX5_setRules_21 : decode cX5_setRules 21 = .ok (.bipush 99, 2) := by decide +kernel
theorem dX5_setRules_23 : decode cX5_setRules 23 = .ok (.invokestatic 96, 3) := by decide +kernel
theorem dX5_setRules_26 : decode cX5_setRules 26 = .ok (.ifCond .eq 18, 3) := by decide +kernel
theorem dX5_setRules_29 : decode cX5_setRules 29 = .ok (.iload 4, 2) := by decide +kernel
theorem dX5_setRules_31 : decode cX5_setRules 31 = .ok (.iconst 0, 1) := by decide +kernel
theorem dX5_setRules_32 : decode cX5_setRules 32 = .ok (.bipush 99, 2) := by decide +kernel
theorem dX5_setRules_34 : decode cX5_setRules 34 = .ok (.invokestatic 96, 3) := by decide +kernel
theorem dX5_setRules_37 : decode cX5_setRules 37 = .ok (.ifCond .eq 7, 3) := by decide +kernel
theorem dX5_setRules_40 : decode cX5_setRules 40 = .ok (.iconst 1, 1) := by decide +kernel
theorem dX5_setRules_41 : decode cX5_setRules 41 = .ok (.goto 4, 3) := by decide +kernel
theorem dX5_setRules_44 : decode cX5_setRules 44 = .ok (.iconst 0, 1) := by decide +kernel
theorem dX5_setRules_45 : decode cX5_setRules 45 = .ok (.istore 5, 2) := by decide +kernel
theorem dX5_setRules_47 : decode cX5_setRules 47 = .ok (.aload_n 0, 1) := by decide +kernel
theorem dX5_setRules_48 : decode cX5_setRules 48 = .ok (.iload 5, 2) := by decide +kernel
theorem dX5_setRules_50 : decode cX5_setRules 50 = .ok (.ifCond .eq 7, 3) := by decide +kernel
theorem dX5_setRules_53 : decode cX5_setRules 53 = .ok (.iconst 0, 1) := by decide +kernel
theorem dX5_setRules_54 : decode cX5_setRules 54 = .ok (.goto 4, 3) := by decide +kernel
theorem dX5_setRules_57 : decode cX5_setRules 57 = .ok (.iconst 1, 1) := by decide +kernel
theorem dX5_setRules_58 : decode cX5_setRules 58 = .ok (.invokevirtual 103, 3) := by decide +kernel
theorem dX5_setRules_61 : decode cX5_setRules 61 = .ok (.ifCond .eq 21, 3) := by decide +kernel
theorem dX5_setRules_64 : decode cX5_setRules 64 = .ok (.aload_n 0, 1) := by decide +kernel
theorem dX5_setRules_65 : decode cX5_setRules 65 = .ok (.getfield 62, 3) := by decide +kernel
theorem dX5_setRules_68 : decode cX5_setRules 68 = .ok (.iload_n 1, 1) := by decide +kernel
theorem dX5_setRules_69 : decode cX5_setRules 69 = .ok (.iload_n 2, 1) := by decide +kernel
theorem dX5_setRules_70 : decode cX5_setRules 70 = .ok (.iastore, 1) := by decide +kernel
theorem dX5_setRules_71 : decode cX5_setRules 71 = .ok (.aload_n 0, 1) := by decide +kernel
theorem dX5_setRules_72 : decode cX5_setRules 72 = .ok (.iload_n 3, 1) := by decide +kernel
theorem dX5_setRules_73 : decode cX5_setRules 73 = .ok (.putfield 65, 3) := by decide +kernel
theorem dX5_setRules_76 : decode cX5_setRules 76 = .ok (.aload_n 0, 1) := by decide +kernel
theorem dX5_setRules_77 : decode cX5_setRules 77 = .ok (.iload 4, 2) := by decide +kernel
theorem dX5_setRules_79 : decode cX5_setRules 79 = .ok (.putfield 69, 3) := by decide +kernel
theorem dX5_setRules_82 : decode cX5_setRules 82 = .ok (.return_, 1) := by decide +kernel
theorem dX5_pass_0 : decode cX5_pass 0 = .ok (.aload_n 0, 1) := by decide +kernel
theorem dX5_pass_1 : decode cX5_pass 1 = .ok (.iload_n 1, 1) := by decide +kernel
theorem dX5_pass_2 : decode cX5_pass 2 = .ok (.iconst 1, 1) := by decide +kernel
theorem dX5_pass_3 : decode cX5_pass 3 = .ok (.bipush 30, 2) := by decide +kernel
theorem dX5_pass_5 : decode cX5_pass 5 = .ok (.invokestatic 96, 3) := by decide +kernel
theorem dX5_pass_8 : decode cX5_pass 8 = .ok (.ifCond .eq 7, 3) := by decide +kernel
theorem dX5_pass_11 : decode cX5_pass 11 = .ok (.iconst 0, 1) := by decide +kernel
theorem dX5_pass_12 : decode cX5_pass 12 = .ok (.goto 4, 3) := by decide +kernel
theorem dX5_pass_15 : decode cX5_pass 15 = .ok (.iconst 1, 1) := by decide +kernel
theorem dX5_pass_16 : decode cX5_pass 16 = .ok (.invokevirtual 103, 3) := by decide +kernel
theorem dX5_pass_19 : decode cX5_pass 19 = .ok (.ifCond .ne 5, 3) := by decide +kernel
theorem dX5_pass_22 : decode cX5_pass 22 = .ok (.iconst 0, 1) := by decide +kernel
theorem dX5_pass_23 : decode cX5_pass 23 = .ok (.ireturn, 1) := by decide +kernel
theorem dX5_pass_24 : decode cX5_pass 24 = .ok (.iconst 0, 1) := by decide +kernel
theorem dX5_pass_25 : decode cX5_pass 25 = .ok (.istore_n 2, 1) := by decide +kernel
theorem dX5_pass_26 : decode cX5_pass 26 = .ok (.iconst 0, 1) := by decide +kernel
theorem dX5_pass_27 : decode cX5_pass 27 = .ok (.istore_n 3, 1) := by decide +kernel
theorem dX5_pass_28 : decode cX5_pass 28 = .ok (.iload_n 3, 1) := by decide +kernel
theorem dX5_pass_29 : decode cX5_pass 29 = .ok (.iload_n 1, 1) := by decide +kernel
theorem dX5_pass_30 : decode cX5_pass 30 = .ok (.if_icmp .ge 86, 3) := by decide +kernel
theorem dX5_pass_33 : decode cX5_pass 33 = .ok (.aload_n 0, 1) := by decide +kernel
theorem dX5_pass_34 : decode cX5_pass 34 = .ok (.dup, 1) := by decide +kernel
theorem dX5_pass_35 : decode cX5_pass 35 = .ok (.getfield 130, 3) := by decide +kernel
theorem dX5_pass_38 : decode cX5_pass 38 = .ok (.iconst 1, 1) := by decide +kernel
theorem dX5_pass_39 : decode cX5_pass 39 = .ok (.iadd, 1) := by decide +kernel
theorem dX5_pass_40 : decode cX5_pass 40 = .ok (.putfield 130, 3) := by decide +kernel
theorem dX5_pass_43 : decode cX5_pass 43 = .ok (.iconst 0, 1) := by decide +kernel
theorem dX5_pass_44 : decode cX5_pass 44 = .ok (.istore 4, 2) := by decide +kernel
theorem dX5_pass_46 : decode cX5_pass 46 = .ok (.iload 4, 2) := by decide +kernel
theorem dX5_pass_48 : decode cX5_pass 48 = .ok (.aload_n 0, 1) := by decide +kernel
theorem dX5_pass_49 : decode cX5_pass 49 = .ok (.getfield 100, 3) := by decide +kernel
theorem dX5_pass_52 : decode cX5_pass 52 = .ok (.if_icmp .ge 58, 3) := by decide +kernel
theorem dX5_pass_55 : decode cX5_pass 55 = .ok (.aload_n 0, 1) := by decide +kernel
theorem dX5_pass_56 : decode cX5_pass 56 = .ok (.getfield 53, 3) := by decide +kernel
theorem dX5_pass_59 : decode cX5_pass 59 = .ok (.iload 4, 2) := by decide +kernel
theorem dX5_pass_61 : decode cX5_pass 61 = .ok (.baload, 1) := by decide +kernel
theorem dX5_pass_62 : decode cX5_pass 62 = .ok (.ifCond .ne 42, 3) := by decide +kernel
theorem dX5_pass_65 : decode cX5_pass 65 = .ok (.aload_n 0, 1) := by decide +kernel
theorem dX5_pass_66 : decode cX5_pass 66 = .ok (.getfield 130, 3) := by decide +kernel
theorem dX5_pass_69 : decode cX5_pass 69 = .ok (.aload_n 0, 1) := by decide +kernel
theorem dX5_pass_70 : decode cX5_pass 70 = .ok (.getfield 43, 3) := by decide +kernel
theorem dX5_pass_73 : decode cX5_pass 73 = .ok (.iload 4, 2) := by decide +kernel
theorem dX5_pass_75 : decode cX5_pass 75 = .ok (.iaload, 1) := by decide +kernel
theorem dX5_pass_76 : decode cX5_pass 76 = .ok (.isub, 1) := by decide +kernel
theorem dX5_pass_77 : decode cX5_pass 77 = .ok (.aload_n 0, 1) := by decide +kernel
theorem dX5_pass_78 : decode cX5_pass 78 = .ok (.getfield 69, 3) := by decide +kernel
theorem dX5_pass_81 : decode cX5_pass 81 = .ok (.if_icmp .le 23, 3) := by decide +kernel
theorem dX5_pass_84 : decode cX5_pass 84 = .ok (.aload_n 0, 1) := by decide +kernel
theorem dX5_pass_85 : decode cX5_pass 85 = .ok (.iload 4, 2) := by decide +kernel
theorem dX5_pass_87 : decode cX5_pass 87 = .ok (.invokevirtual 150, 3) := by decide +kernel
theorem dX5_pass_90 : decode cX5_pass 90 = .ok (.ifCond .ne 14, 3) := by decide +kernel
theorem dX5_pass_93 : decode cX5_pass 93 = .ok (.aload_n 0, 1) := by decide +kernel
theorem dX5_pass_94 : decode cX5_pass 94 = .ok (.getfield 53, 3) := by decide +kernel
theorem dX5_pass_97 : decode cX5_pass 97 = .ok (.iload 4, 2) := by decide +kernel
theorem dX5_pass_99 : decode cX5_pass 99 = .ok (.iconst 1, 1) := by decide +kernel
theorem dX5_pass_100 : decode cX5_pass 100 = .ok (.bastore, 1) := by decide +kernel
theorem dX5_pass_101 : decode cX5_pass 101 = .ok (.iinc 2 1, 3) := by decide +kernel
theorem dX5_pass_104 : decode cX5_pass 104 = .ok (.iinc 4 1, 3) := by decide +kernel
theorem dX5_pass_107 : decode cX5_pass 107 = .ok (.goto (-61), 3) := by decide +kernel
theorem dX5_pass_110 : decode cX5_pass 110 = .ok (.iinc 3 1, 3) := by decide +kernel
theorem dX5_pass_113 : decode cX5_pass 113 = .ok (.goto (-85), 3) := by decide +kernel
theorem dX5_pass_116 : decode cX5_pass 116 = .ok (.iload_n 2, 1) := by decide +kernel
theorem dX5_pass_117 : decode cX5_pass 117 = .ok (.ireturn, 1) := by decide +kernel
theorem dX5_state_0 : decode cX5_state 0 = .ok (.aload_n 0, 1) := by decide +kernel
theorem dX5_state_1 : decode cX5_state 1 = .ok (.aload_n 0, 1) := by decide +kernel
theorem dX5_state_2 : decode cX5_state 2 = .ok (.iload_n 1, 1) := by decide +kernel
theorem dX5_state_3 : decode cX5_state 3 = .ok (.invokevirtual 144, 3) := by decide +kernel
theorem dX5_state_6 : decode cX5_state 6 = .ok (.ifCond .eq 7, 3) := by decide +kernel
theorem dX5_state_9 : decode cX5_state 9 = .ok (.iconst 0, 1) := by decide +kernel
theorem dX5_state_10 : decode cX5_state 10 = .ok (.goto 4, 3) := by decide +kernel
theorem dX5_state_13 : decode cX5_state 13 = .ok (.iconst 1, 1) := by decide +kernel
theorem dX5_state_14 : decode cX5_state 14 = .ok (.invokevirtual 103, 3) := by decide +kernel
theorem dX5_state_17 : decode cX5_state 17 = .ok (.ifCond .ne 5, 3) := by decide +kernel
theorem dX5_state_20 : decode cX5_state 20 = .ok (.iconst 0, 1) := by decide +kernel
theorem dX5_state_21 : decode cX5_state 21 = .ok (.ireturn, 1) := by decide +kernel
theorem dX5_state_22 : decode cX5_state 22 = .ok (.aload_n 0, 1) := by decide +kernel
theorem dX5_state_23 : decode cX5_state 23 = .ok (.getfield 46, 3) := by decide +kernel
theorem dX5_state_26 : decode cX5_state 26 = .ok (.iload_n 1, 1) := by decide +kernel
theorem dX5_state_27 : decode cX5_state 27 = .ok (.iaload, 1) := by decide +kernel
theorem dX5_state_28 : decode cX5_state 28 = .ok (.aload_n 0, 1) := by decide +kernel
theorem dX5_state_29 : decode cX5_state 29 = .ok (.getfield 49, 3) := by decide +kernel
theorem dX5_state_32 : decode cX5_state 32 = .ok (.iload_n 1, 1) := by decide +kernel
theorem dX5_state_33 : decode cX5_state 33 = .ok (.baload, 1) := by decide +kernel
theorem dX5_state_34 : decode cX5_state 34 = .ok (.ifCond .eq 8, 3) := by decide +kernel
theorem dX5_state_37 : decode cX5_state 37 = .ok (.bipush 10, 2) := by decide +kernel
theorem dX5_state_39 : decode cX5_state 39 = .ok (.goto 4, 3) := by decide +kernel
theorem dX5_state_42 : decode cX5_state 42 = .ok (.iconst 0, 1) := by decide +kernel
theorem dX5_state_43 : decode cX5_state 43 = .ok (.iadd, 1) := by decide +kernel
theorem dX5_state_44 : decode cX5_state 44 = .ok (.aload_n 0, 1) := by decide +kernel
theorem dX5_state_45 : decode cX5_state 45 = .ok (.iload_n 1, 1) := by decide +kernel
theorem dX5_state_46 : decode cX5_state 46 = .ok (.invokevirtual 153, 3) := by decide +kernel
theorem dX5_state_49 : decode cX5_state 49 = .ok (.ifCond .eq 8, 3) := by decide +kernel
theorem dX5_state_52 : decode cX5_state 52 = .ok (.bipush 20, 2) := by decide +kernel
theorem dX5_state_54 : decode cX5_state 54 = .ok (.goto 4, 3) := by decide +kernel
theorem dX5_state_57 : decode cX5_state 57 = .ok (.iconst 0, 1) := by decide +kernel
theorem dX5_state_58 : decode cX5_state 58 = .ok (.iadd, 1) := by decide +kernel
theorem dX5_state_59 : decode cX5_state 59 = .ok (.aload_n 0, 1) := by decide +kernel
theorem dX5_state_60 : decode cX5_state 60 = .ok (.getfield 53, 3) := by decide +kernel
theorem dX5_state_63 : decode cX5_state 63 = .ok (.iload_n 1, 1) := by decide +kernel
theorem dX5_state_64 : decode cX5_state 64 = .ok (.baload, 1) := by decide +kernel
theorem dX5_state_65 : decode cX5_state 65 = .ok (.ifCond .eq 8, 3) := by decide +kernel
theorem dX5_state_68 : decode cX5_state 68 = .ok (.bipush 40, 2) := by decide +kernel
theorem dX5_state_70 : decode cX5_state 70 = .ok (.goto 4, 3) := by decide +kernel
theorem dX5_state_73 : decode cX5_state 73 = .ok (.iconst 0, 1) := by decide +kernel
theorem dX5_state_74 : decode cX5_state 74 = .ok (.iadd, 1) := by decide +kernel
theorem dX5_state_75 : decode cX5_state 75 = .ok (.ireturn, 1) := by decide +kernel
theorem dX5_bakeFor_0 : decode cX5_bakeFor 0 = .ok (.iconst (-1), 1) := by decide +kernel
theorem dX5_bakeFor_1 : decode cX5_bakeFor 1 = .ok (.istore 4, 2) := by decide +kernel
theorem dX5_bakeFor_3 : decode cX5_bakeFor 3 = .ok (.iconst 0, 1) := by decide +kernel
theorem dX5_bakeFor_4 : decode cX5_bakeFor 4 = .ok (.istore 5, 2) := by decide +kernel
theorem dX5_bakeFor_6 : decode cX5_bakeFor 6 = .ok (.iload 5, 2) := by decide +kernel
theorem dX5_bakeFor_8 : decode cX5_bakeFor 8 = .ok (.aload_n 0, 1) := by decide +kernel
theorem dX5_bakeFor_9 : decode cX5_bakeFor 9 = .ok (.getfield 100, 3) := by decide +kernel
theorem dX5_bakeFor_12 : decode cX5_bakeFor 12 = .ok (.if_icmp .ge 109, 3) := by decide +kernel
theorem dX5_bakeFor_15 : decode cX5_bakeFor 15 = .ok (.aload_n 0, 1) := by decide +kernel
theorem dX5_bakeFor_16 : decode cX5_bakeFor 16 = .ok (.getfield 59, 3) := by decide +kernel
theorem dX5_bakeFor_19 : decode cX5_bakeFor 19 = .ok (.iconst 3, 1) := by decide +kernel
theorem dX5_bakeFor_20 : decode cX5_bakeFor 20 = .ok (.iload 5, 2) := by decide +kernel
theorem dX5_bakeFor_22 : decode cX5_bakeFor 22 = .ok (.imul, 1) := by decide +kernel
theorem dX5_bakeFor_23 : decode cX5_bakeFor 23 = .ok (.iload_n 2, 1) := by decide +kernel
theorem dX5_bakeFor_24 : decode cX5_bakeFor 24 = .ok (.iadd, 1) := by decide +kernel
theorem dX5_bakeFor_25 : decode cX5_bakeFor 25 = .ok (.iaload, 1) := by decide +kernel
theorem dX5_bakeFor_26 : decode cX5_bakeFor 26 = .ok (.istore 6, 2) := by decide +kernel
theorem dX5_bakeFor_28 : decode cX5_bakeFor 28 = .ok (.aload_n 0, 1) := by decide +kernel
theorem dX5_bakeFor_29 : decode cX5_bakeFor 29 = .ok (.getfield 37, 3) := by decide +kernel
theorem dX5_bakeFor_32 : decode cX5_bakeFor 32 = .ok (.iload 5, 2) := by decide +kernel
theorem dX5_bakeFor_34 : decode cX5_bakeFor 34 = .ok (.iaload, 1) := by decide +kernel
theorem dX5_bakeFor_35 : decode cX5_bakeFor 35 = .ok (.iload_n 1, 1) := by decide +kernel
theorem dX5_bakeFor_36 : decode cX5_bakeFor 36 = .ok (.if_icmp .ne 62, 3) := by decide +kernel
theorem dX5_bakeFor_39 : decode cX5_bakeFor 39 = .ok (.iload 6, 2) := by decide +kernel
theorem dX5_bakeFor_41 : decode cX5_bakeFor 41 = .ok (.iconst (-1), 1) := by decide +kernel
theorem dX5_bakeFor_42 : decode cX5_bakeFor 42 = .ok (.if_icmp .eq 56, 3) := by decide +kernel
theorem dX5_bakeFor_45 : decode cX5_bakeFor 45 = .ok (.iload 6, 2) := by decide +kernel
theorem dX5_bakeFor_47 : decode cX5_bakeFor 47 = .ok (.aload_n 0, 1) := by decide +kernel
theorem dX5_bakeFor_48 : decode cX5_bakeFor 48 = .ok (.getfield 130, 3) := by decide +kernel
theorem dX5_bakeFor_51 : decode cX5_bakeFor 51 = .ok (.if_icmp .gt 47, 3) := by decide +kernel
theorem dX5_bakeFor_54 : decode cX5_bakeFor 54 = .ok (.aload_n 0, 1) := by decide +kernel
theorem dX5_bakeFor_55 : decode cX5_bakeFor 55 = .ok (.getfield 49, 3) := by decide +kernel
theorem dX5_bakeFor_58 : decode cX5_bakeFor 58 = .ok (.iload 5, 2) := by decide +kernel
theorem dX5_bakeFor_60 : decode cX5_bakeFor 60 = .ok (.baload, 1) := by decide +kernel
theorem dX5_bakeFor_61 : decode cX5_bakeFor 61 = .ok (.ifCond .ne 37, 3) := by decide +kernel
theorem dX5_bakeFor_64 : decode cX5_bakeFor 64 = .ok (.aload_n 0, 1) := by decide +kernel
theorem dX5_bakeFor_65 : decode cX5_bakeFor 65 = .ok (.getfield 53, 3) := by decide +kernel
theorem dX5_bakeFor_68 : decode cX5_bakeFor 68 = .ok (.iload 5, 2) := by decide +kernel
theorem dX5_bakeFor_70 : decode cX5_bakeFor 70 = .ok (.baload, 1) := by decide +kernel
end
section
/-! decode rows (printed), 3 -/
theorem dX5_bakeFor_71 : decode cX5_bakeFor 71 = .ok (.ifCond .ne 27, 3) := by decide +kernel
theorem dX5_bakeFor_74 : decode cX5_bakeFor 74 = .ok (.aload_n 0, 1) := by decide +kernel
theorem dX5_bakeFor_75 : decode cX5_bakeFor 75 = .ok (.iload 5, 2) := by decide +kernel
theorem dX5_bakeFor_77 : decode cX5_bakeFor 77 = .ok (.invokevirtual 153, 3) := by decide +kernel
theorem dX5_bakeFor_80 : decode cX5_bakeFor 80 = .ok (.ifCond .ne 18, 3) := by decide +kernel
theorem dX5_bakeFor_83 : decode cX5_bakeFor 83 = .ok (.aload_n 0, 1) := by decide +kernel
theorem dX5_bakeFor_84 : decode cX5_bakeFor 84 = .ok (.getfield 46, 3) := by decide +kernel
theorem dX5_bakeFor_87 : decode cX5_bakeFor 87 = .ok (.iload 5, 2) := by decide +kernel
theorem dX5_bakeFor_89 : decode cX5_bakeFor 89 = .ok (.iaload, 1) := by decide +kernel
theorem dX5_bakeFor_90 : decode cX5_bakeFor 90 = .ok (.iload_n 3, 1) := by decide +kernel
theorem dX5_bakeFor_91 : decode cX5_bakeFor 91 = .ok (.if_icmp .lt 7, 3) := by decide +kernel
theorem dX5_bakeFor_94 : decode cX5_bakeFor 94 = .ok (.iconst 1, 1) := by decide +kernel
theorem dX5_bakeFor_95 : decode cX5_bakeFor 95 = .ok (.goto 4, 3) := by decide +kernel
theorem dX5_bakeFor_98 : decode cX5_bakeFor 98 = .ok (.iconst 0, 1) := by decide +kernel
theorem dX5_bakeFor_99 : decode cX5_bakeFor 99 = .ok (.istore 7, 2) := by decide +kernel
theorem dX5_bakeFor_101 : decode cX5_bakeFor 101 = .ok (.iload 7, 2) := by decide +kernel
theorem dX5_bakeFor_103 : decode cX5_bakeFor 103 = .ok (.ifCond .eq 8, 3) := by decide +kernel
theorem dX5_bakeFor_106 : decode cX5_bakeFor 106 = .ok (.iload 5, 2) := by decide +kernel
theorem dX5_bakeFor_108 : decode cX5_bakeFor 108 = .ok (.goto 5, 3) := by decide +kernel
theorem dX5_bakeFor_111 : decode cX5_bakeFor 111 = .ok (.iload 4, 2) := by decide +kernel
theorem dX5_bakeFor_113 : decode cX5_bakeFor 113 = .ok (.istore 4, 2) := by decide +kernel
theorem dX5_bakeFor_115 : decode cX5_bakeFor 115 = .ok (.iinc 5 1, 3) := by decide +kernel
theorem dX5_bakeFor_118 : decode cX5_bakeFor 118 = .ok (.goto (-112), 3) := by decide +kernel
theorem dX5_bakeFor_121 : decode cX5_bakeFor 121 = .ok (.iload 4, 2) := by decide +kernel
theorem dX5_bakeFor_123 : decode cX5_bakeFor 123 = .ok (.ireturn, 1) := by decide +kernel
theorem dX5_start_0 : decode cX5_start 0 = .ok (.aload_n 0, 1) := by decide +kernel
theorem dX5_start_1 : decode cX5_start 1 = .ok (.iload_n 1, 1) := by decide +kernel
theorem dX5_start_2 : decode cX5_start 2 = .ok (.invokevirtual 107, 3) := by decide +kernel
theorem dX5_start_5 : decode cX5_start 5 = .ok (.istore 4, 2) := by decide +kernel
theorem dX5_start_7 : decode cX5_start 7 = .ok (.iload_n 2, 1) := by decide +kernel
theorem dX5_start_8 : decode cX5_start 8 = .ok (.iconst 0, 1) := by decide +kernel
theorem dX5_start_9 : decode cX5_start 9 = .ok (.iconst 2, 1) := by decide +kernel
theorem dX5_start_10 : decode cX5_start 10 = .ok (.invokestatic 96, 3) := by decide +kernel
theorem dX5_start_13 : decode cX5_start 13 = .ok (.ifCond .eq 16, 3) := by decide +kernel
theorem dX5_start_16 : decode cX5_start 16 = .ok (.iload_n 3, 1) := by decide +kernel
theorem dX5_start_17 : decode cX5_start 17 = .ok (.iconst 0, 1) := by decide +kernel
theorem dX5_start_18 : decode cX5_start 18 = .ok (.iconst 2, 1) := by decide +kernel
theorem dX5_start_19 : decode cX5_start 19 = .ok (.invokestatic 96, 3) := by decide +kernel
theorem dX5_start_22 : decode cX5_start 22 = .ok (.ifCond .eq 7, 3) := by decide +kernel
theorem dX5_start_25 : decode cX5_start 25 = .ok (.iconst 1, 1) := by decide +kernel
theorem dX5_start_26 : decode cX5_start 26 = .ok (.goto 4, 3) := by decide +kernel
theorem dX5_start_29 : decode cX5_start 29 = .ok (.iconst 0, 1) := by decide +kernel
theorem dX5_start_30 : decode cX5_start 30 = .ok (.istore 5, 2) := by decide +kernel
theorem dX5_start_32 : decode cX5_start 32 = .ok (.iload 4, 2) := by decide +kernel
theorem dX5_start_34 : decode cX5_start 34 = .ok (.ifCond .eq 18, 3) := by decide +kernel
theorem dX5_start_37 : decode cX5_start 37 = .ok (.iload 5, 2) := by decide +kernel
theorem dX5_start_39 : decode cX5_start 39 = .ok (.ifCond .eq 13, 3) := by decide +kernel
theorem dX5_start_42 : decode cX5_start 42 = .ok (.aload_n 0, 1) := by decide +kernel
theorem dX5_start_43 : decode cX5_start 43 = .ok (.iload_n 1, 1) := by decide +kernel
theorem dX5_start_44 : decode cX5_start 44 = .ok (.iload_n 2, 1) := by decide +kernel
theorem dX5_start_45 : decode cX5_start 45 = .ok (.iload_n 3, 1) := by decide +kernel
theorem dX5_start_46 : decode cX5_start 46 = .ok (.invokevirtual 156, 3) := by decide +kernel
theorem dX5_start_49 : decode cX5_start 49 = .ok (.goto 4, 3) := by decide +kernel
theorem dX5_start_52 : decode cX5_start 52 = .ok (.iconst (-1), 1) := by decide +kernel
theorem dX5_start_53 : decode cX5_start 53 = .ok (.istore 6, 2) := by decide +kernel
theorem dX5_start_55 : decode cX5_start 55 = .ok (.aload_n 0, 1) := by decide +kernel
theorem dX5_start_56 : decode cX5_start 56 = .ok (.iload 4, 2) := by decide +kernel
theorem dX5_start_58 : decode cX5_start 58 = .ok (.ifCond .ne 7, 3) := by decide +kernel
theorem dX5_start_61 : decode cX5_start 61 = .ok (.iconst 1, 1) := by decide +kernel
theorem dX5_start_62 : decode cX5_start 62 = .ok (.goto 32, 3) := by decide +kernel
theorem dX5_start_65 : decode cX5_start 65 = .ok (.iload 5, 2) := by decide +kernel
theorem dX5_start_67 : decode cX5_start 67 = .ok (.ifCond .ne 7, 3) := by decide +kernel
theorem dX5_start_70 : decode cX5_start 70 = .ok (.iconst 2, 1) := by decide +kernel
theorem dX5_start_71 : decode cX5_start 71 = .ok (.goto 23, 3) := by decide +kernel
theorem dX5_start_74 : decode cX5_start 74 = .ok (.iload 6, 2) := by decide +kernel
theorem dX5_start_76 : decode cX5_start 76 = .ok (.iconst (-1), 1) := by decide +kernel
theorem dX5_start_77 : decode cX5_start 77 = .ok (.if_icmp .eq 12, 3) := by decide +kernel
theorem dX5_start_80 : decode cX5_start 80 = .ok (.aload_n 0, 1) := by decide +kernel
theorem dX5_start_81 : decode cX5_start 81 = .ok (.getfield 147, 3) := by decide +kernel
theorem dX5_start_84 : decode cX5_start 84 = .ok (.bipush 30, 2) := by decide +kernel
theorem dX5_start_86 : decode cX5_start 86 = .ok (.if_icmp .ne 7, 3) := by decide +kernel
theorem dX5_start_89 : decode cX5_start 89 = .ok (.iconst 3, 1) := by decide +kernel
theorem dX5_start_90 : decode cX5_start 90 = .ok (.goto 4, 3) := by decide +kernel
theorem dX5_start_93 : decode cX5_start 93 = .ok (.iconst 0, 1) := by decide +kernel
theorem dX5_start_94 : decode cX5_start 94 = .ok (.invokevirtual 103, 3) := by decide +kernel
theorem dX5_start_97 : decode cX5_start 97 = .ok (.ifCond .ne 5, 3) := by decide +kernel
theorem dX5_start_100 : decode cX5_start 100 = .ok (.iconst 0, 1) := by decide +kernel
theorem dX5_start_101 : decode cX5_start 101 = .ok (.ireturn, 1) := by decide +kernel
theorem dX5_start_102 : decode cX5_start 102 = .ok (.aload_n 0, 1) := by decide +kernel
theorem dX5_start_103 : decode cX5_start 103 = .ok (.getfield 72, 3) := by decide +kernel
theorem dX5_start_106 : decode cX5_start 106 = .ok (.aload_n 0, 1) := by decide +kernel
theorem dX5_start_107 : decode cX5_start 107 = .ok (.getfield 147, 3) := by decide +kernel
theorem dX5_start_110 : decode cX5_start 110 = .ok (.iload_n 1, 1) := by decide +kernel
theorem dX5_start_111 : decode cX5_start 111 = .ok (.iastore, 1) := by decide +kernel
theorem dX5_start_112 : decode cX5_start 112 = .ok (.aload_n 0, 1) := by decide +kernel
theorem dX5_start_113 : decode cX5_start 113 = .ok (.getfield 75, 3) := by decide +kernel
theorem dX5_start_116 : decode cX5_start 116 = .ok (.aload_n 0, 1) := by decide +kernel
theorem dX5_start_117 : decode cX5_start 117 = .ok (.getfield 147, 3) := by decide +kernel
theorem dX5_start_120 : decode cX5_start 120 = .ok (.iload_n 2, 1) := by decide +kernel
theorem dX5_start_121 : decode cX5_start 121 = .ok (.iastore, 1) := by decide +kernel
theorem dX5_start_122 : decode cX5_start 122 = .ok (.aload_n 0, 1) := by decide +kernel
theorem dX5_start_123 : decode cX5_start 123 = .ok (.getfield 78, 3) := by decide +kernel
theorem dX5_start_126 : decode cX5_start 126 = .ok (.aload_n 0, 1) := by decide +kernel
theorem dX5_start_127 : decode cX5_start 127 = .ok (.getfield 147, 3) := by decide +kernel
theorem dX5_start_130 : decode cX5_start 130 = .ok (.iload_n 3, 1) := by decide +kernel
theorem dX5_start_131 : decode cX5_start 131 = .ok (.iastore, 1) := by decide +kernel
theorem dX5_start_132 : decode cX5_start 132 = .ok (.aload_n 0, 1) := by decide +kernel
theorem dX5_start_133 : decode cX5_start 133 = .ok (.getfield 81, 3) := by decide +kernel
theorem dX5_start_136 : decode cX5_start 136 = .ok (.aload_n 0, 1) := by decide +kernel
theorem dX5_start_137 : decode cX5_start 137 = .ok (.getfield 147, 3) := by decide +kernel
theorem dX5_start_140 : decode cX5_start 140 = .ok (.iload 6, 2) := by decide +kernel
theorem dX5_start_142 : decode cX5_start 142 = .ok (.iastore, 1) := by decide +kernel
theorem dX5_start_143 : decode cX5_start 143 = .ok (.aload_n 0, 1) := by decide +kernel
theorem dX5_start_144 : decode cX5_start 144 = .ok (.dup, 1) := by decide +kernel
theorem dX5_start_145 : decode cX5_start 145 = .ok (.getfield 147, 3) := by decide +kernel
theorem dX5_start_148 : decode cX5_start 148 = .ok (.iconst 1, 1) := by decide +kernel
theorem dX5_start_149 : decode cX5_start 149 = .ok (.iadd, 1) := by decide +kernel
theorem dX5_start_150 : decode cX5_start 150 = .ok (.putfield 147, 3) := by decide +kernel
theorem dX5_start_153 : decode cX5_start 153 = .ok (.aload_n 0, 1) := by decide +kernel
theorem dX5_start_154 : decode cX5_start 154 = .ok (.getfield 147, 3) := by decide +kernel
theorem dX5_start_157 : decode cX5_start 157 = .ok (.iconst 1, 1) := by decide +kernel
theorem dX5_start_158 : decode cX5_start 158 = .ok (.isub, 1) := by decide +kernel
theorem dX5_start_159 : decode cX5_start 159 = .ok (.ireturn, 1) := by decide +kernel
theorem dX5_isRunning_0 : decode cX5_isRunning 0 = .ok (.iload_n 1, 1) := by decide +kernel
theorem dX5_isRunning_1 : decode cX5_isRunning 1 = .ok (.iconst 0, 1) := by decide +kernel
theorem dX5_isRunning_2 : decode cX5_isRunning 2 = .ok (.aload_n 0, 1) := by decide +kernel
theorem dX5_isRunning_3 : decode cX5_isRunning 3 = .ok (.getfield 147, 3) := by decide +kernel
theorem dX5_isRunning_6 : decode cX5_isRunning 6 = .ok (.iconst 1, 1) := by decide +kernel
theorem dX5_isRunning_7 : decode cX5_isRunning 7 = .ok (.isub, 1) := by decide +kernel
theorem dX5_isRunning_8 : decode cX5_isRunning 8 = .ok (.invokestatic 96, 3) := by decide +kernel
theorem dX5_isRunning_11 : decode cX5_isRunning 11 = .ok (.ifCond .eq 17, 3) := by decide +kernel
theorem dX5_isRunning_14 : decode cX5_isRunning 14 = .ok (.aload_n 0, 1) := by decide +kernel
theorem dX5_isRunning_15 : decode cX5_isRunning 15 = .ok (.getfield 81, 3) := by decide +kernel
theorem dX5_isRunning_18 : decode cX5_isRunning 18 = .ok (.iload_n 1, 1) := by decide +kernel
theorem dX5_isRunning_19 : decode cX5_isRunning 19 = .ok (.iaload, 1) := by decide +kernel
theorem dX5_isRunning_20 : decode cX5_isRunning 20 = .ok (.iconst (-1), 1) := by decide +kernel
theorem dX5_isRunning_21 : decode cX5_isRunning 21 = .ok (.if_icmp .eq 7, 3) := by decide +kernel
theorem dX5_isRunning_24 : decode cX5_isRunning 24 = .ok (.iconst 1, 1) := by decide +kernel
theorem dX5_isRunning_25 : decode cX5_isRunning 25 = .ok (.goto 4, 3) := by decide +kernel
theorem dX5_isRunning_28 : decode cX5_isRunning 28 = .ok (.iconst 0, 1) := by decide +kernel
theorem dX5_isRunning_29 : decode cX5_isRunning 29 = .ok (.ireturn, 1) := by decide +kernel
theorem dX5_next_0 : decode cX5_next 0 = .ok (.aload_n 0, 1) := by decide +kernel
theorem dX5_next_1 : decode cX5_next 1 = .ok (.aload_n 0, 1) := by decide +kernel
theorem dX5_next_2 : decode cX5_next 2 = .ok (.getfield 72, 3) := by decide +kernel
theorem dX5_next_5 : decode cX5_next 5 = .ok (.iload_n 1, 1) := by decide +kernel
theorem dX5_next_6 : decode cX5_next 6 = .ok (.iaload, 1) := by decide +kernel
theorem dX5_next_7 : decode cX5_next 7 = .ok (.aload_n 0, 1) := by decide +kernel
theorem dX5_next_8 : decode cX5_next 8 = .ok (.getfield 75, 3) := by decide +kernel
theorem dX5_next_11 : decode cX5_next 11 = .ok (.iload_n 1, 1) := by decide +kernel
theorem dX5_next_12 : decode cX5_next 12 = .ok (.iaload, 1) := by decide +kernel
theorem dX5_next_13 : decode cX5_next 13 = .ok (.aload_n 0, 1) := by decide +kernel
theorem dX5_next_14 : decode cX5_next 14 = .ok (.getfield 78, 3) := by decide +kernel
theorem dX5_next_17 : decode cX5_next 17 = .ok (.iload_n 1, 1) := by decide +kernel
theorem dX5_next_18 : decode cX5_next 18 = .ok (.iaload, 1) := by decide +kernel
theorem dX5_next_19 : decode cX5_next 19 = .ok (.invokevirtual 156, 3) := by decide +kernel
theorem dX5_next_22 : decode cX5_next 22 = .ok (.ireturn, 1) := by decide +kernel
theorem dX5_renew_0 : decode cX5_renew 0 = .ok (.aload_n 0, 1) := by decide +kernel
theorem dX5_renew_1 : decode cX5_renew 1 = .ok (.iload_n 1, 1) := by decide +kernel
theorem dX5_renew_2 : decode cX5_renew 2 = .ok (.invokevirtual 159, 3) := by decide +kernel
theorem dX5_renew_5 : decode cX5_renew 5 = .ok (.istore_n 2, 1) := by decide +kernel
theorem dX5_renew_6 : decode cX5_renew 6 = .ok (.aload_n 0, 1) := by decide +kernel
theorem dX5_renew_7 : decode cX5_renew 7 = .ok (.iload_n 2, 1) := by decide +kernel
theorem dX5_renew_8 : decode cX5_renew 8 = .ok (.ifCond .ne 7, 3) := by decide +kernel
theorem dX5_renew_11 : decode cX5_renew 11 = .ok (.iconst 1, 1) := by decide +kernel
theorem dX5_renew_12 : decode cX5_renew 12 = .ok (.goto 17, 3) := by decide +kernel
theorem dX5_renew_15 : decode cX5_renew 15 = .ok (.aload_n 0, 1) := by decide +kernel
theorem dX5_renew_16 : decode cX5_renew 16 = .ok (.iload_n 1, 1) := by decide +kernel
theorem dX5_renew_17 : decode cX5_renew 17 = .ok (.invokevirtual 162, 3) := by decide +kernel
theorem dX5_renew_20 : decode cX5_renew 20 = .ok (.iconst (-1), 1) := by decide +kernel
theorem dX5_renew_21 : decode cX5_renew 21 = .ok (.if_icmp .ne 7, 3) := by decide +kernel
theorem dX5_renew_24 : decode cX5_renew 24 = .ok (.iconst 2, 1) := by decide +kernel
theorem dX5_renew_25 : decode cX5_renew 25 = .ok (.goto 4, 3) := by decide +kernel
theorem dX5_renew_28 : decode cX5_renew 28 = .ok (.iconst 0, 1) := by decide +kernel
theorem dX5_renew_29 : decode cX5_renew 29 = .ok (.invokevirtual 103, 3) := by decide +kernel
theorem dX5_renew_32 : decode cX5_renew 32 = .ok (.ifCond .ne 5, 3) := by decide +kernel
theorem dX5_renew_35 : decode cX5_renew 35 = .ok (.iconst 0, 1) := by decide +kernel
theorem dX5_renew_36 : decode cX5_renew 36 = .ok (.ireturn, 1) := by decide +kernel
theorem dX5_renew_37 : decode cX5_renew 37 = .ok (.aload_n 0, 1) := by decide +kernel
theorem dX5_renew_38 : decode cX5_renew 38 = .ok (.getfield 81, 3) := by decide +kernel
theorem dX5_renew_41 : decode cX5_renew 41 = .ok (.iload_n 1, 1) := by decide +kernel
theorem dX5_renew_42 : decode cX5_renew 42 = .ok (.aload_n 0, 1) := by decide +kernel
theorem dX5_renew_43 : decode cX5_renew 43 = .ok (.iload_n 1, 1) := by decide +kernel
theorem dX5_renew_44 : decode cX5_renew 44 = .ok (.invokevirtual 162, 3) := by decide +kernel
theorem dX5_renew_47 : decode cX5_renew 47 = .ok (.iastore, 1) := by decide +kernel
theorem dX5_renew_48 : decode cX5_renew 48 = .ok (.aload_n 0, 1) := by decide +kernel
theorem dX5_renew_49 : decode cX5_renew 49 = .ok (.getfield 81, 3) := by decide +kernel
theorem dX5_renew_52 : decode cX5_renew 52 = .ok (.iload_n 1, 1) := by decide +kernel
theorem dX5_renew_53 : decode cX5_renew 53 = .ok (.iaload, 1) := by decide +kernel
theorem dX5_renew_54 : decode cX5_renew 54 = .ok (.ireturn, 1) := by decide +kernel
theorem dX5_stop_0 : decode cX5_stop 0 = .ok (.aload_n 0, 1) := by decide +kernel
theorem dX5_stop_1 : decode cX5_stop 1 = .ok (.aload_n 0, 1) := by decide +kernel
theorem dX5_stop_2 : decode cX5_stop 2 = .ok (.iload_n 1, 1) := by decide +kernel
theorem dX5_stop_3 : decode cX5_stop 3 = .ok (.invokevirtual 159, 3) := by decide +kernel
theorem dX5_stop_6 : decode cX5_stop 6 = .ok (.ifCond .eq 7, 3) := by decide +kernel
theorem dX5_stop_9 : decode cX5_stop 9 = .ok (.iconst 0, 1) := by decide +kernel
theorem dX5_stop_10 : decode cX5_stop 10 = .ok (.goto 4, 3) := by decide +kernel
theorem dX5_stop_13 : decode cX5_stop 13 = .ok (.iconst 1, 1) := by decide +kernel
theorem dX5_stop_14 : decode cX5_stop 14 = .ok (.invokevirtual 103, 3) := by decide +kernel
theorem dX5_stop_17 : decode cX5_stop 17 = .ok (.ifCond .ne 5, 3) := by decide +kernel
theorem dX5_stop_20 : decode cX5_stop 20 = .ok (.iconst 0, 1) := by decide +kernel
theorem dX5_stop_21 : decode cX5_stop 21 = .ok (.ireturn, 1) := by decide +kernel
theorem dX5_stop_22 : decode cX5_stop 22 = .ok (.aload_n 0, 1) := by decide +kernel
theorem dX5_stop_23 : decode cX5_stop 23 = .ok (.getfield 81, 3) := by decide +kernel
theorem dX5_stop_26 : decode cX5_stop 26 = .ok (.iload_n 1, 1) := by decide +kernel
theorem dX5_stop_27 : decode cX5_stop 27 = .ok (.iaload, 1) := by decide +kernel
theorem dX5_stop_28 : decode cX5_stop 28 = .ok (.istore_n 2, 1) := by decide +kernel
theorem dX5_stop_29 : decode cX5_stop 29 = .ok (.aload_n 0, 1) := by decide +kernel
theorem dX5_stop_30 : decode cX5_stop 30 = .ok (.getfield 81, 3) := by decide +kernel
theorem dX5_stop_33 : decode cX5_stop 33 = .ok (.iload_n 1, 1) := by decide +kernel
theorem dX5_stop_34 : decode cX5_stop 34 = .ok (.iconst (-1), 1) := by decide +kernel
theorem dX5_stop_35 : decode cX5_stop 35 = .ok (.iastore, 1) := by decide +kernel
theorem dX5_stop_36 : decode cX5_stop 36 = .ok (.iload_n 2, 1) := by decide +kernel
theorem dX5_stop_37 : decode cX5_stop 37 = .ok (.ireturn, 1) := by decide +kernel
theorem dX5_runsFrom_0 : decode cX5_runsFrom 0 = .ok (.aload_n 0, 1) := by decide +kernel
theorem dX5_runsFrom_1 : decode cX5_runsFrom 1 = .ok (.iload_n 1, 1) := by decide +kernel
theorem dX5_runsFrom_2 : decode cX5_runsFrom 2 = .ok (.iconst 0, 1) := by decide +kernel
theorem dX5_runsFrom_3 : decode cX5_runsFrom 3 = .ok (.aload_n 0, 1) := by decide +kernel
theorem dX5_runsFrom_4 : decode cX5_runsFrom 4 = .ok (.getfield 147, 3) := by decide +kernel
theorem dX5_runsFrom_7 : decode cX5_runsFrom 7 = .ok (.iconst 1, 1) := by decide +kernel
theorem dX5_runsFrom_8 : decode cX5_runsFrom 8 = .ok (.isub, 1) := by decide +kernel
theorem dX5_runsFrom_9 : decode cX5_runsFrom 9 = .ok (.invokestatic 96, 3) := by decide +kernel
theorem dX5_runsFrom_12 : decode cX5_runsFrom 12 = .ok (.ifCond .eq 7, 3) := by decide +kernel
theorem dX5_runsFrom_15 : decode cX5_runsFrom 15 = .ok (.iconst 0, 1) := by decide +kernel
theorem dX5_runsFrom_16 : decode cX5_runsFrom 16 = .ok (.goto 4, 3) := by decide +kernel
theorem dX5_runsFrom_19 : decode cX5_runsFrom 19 = .ok (.iconst 1, 1) := by decide +kernel
theorem dX5_runsFrom_20 : decode cX5_runsFrom 20 = .ok (.invokevirtual 103, 3) := by decide +kernel
theorem dX5_runsFrom_23 : decode cX5_runsFrom 23 = .ok (.ifCond .eq 12, 3) := by decide +kernel
theorem dX5_runsFrom_26 : decode cX5_runsFrom 26 = .ok (.aload_n 0, 1) := by decide +kernel
theorem dX5_runsFrom_27 : decode cX5_runsFrom 27 = .ok (.getfield 81, 3) := by decide +kernel
theorem dX5_runsFrom_30 : decode cX5_runsFrom 30 = .ok (.iload_n 1, 1) := by decide +kernel
theorem dX5_runsFrom_31 : decode cX5_runsFrom 31 = .ok (.iaload, 1) := by decide +kernel
theorem dX5_runsFrom_32 : decode cX5_runsFrom 32 = .ok (.goto 4, 3) := by decide +kernel
theorem dX5_runsFrom_35 : decode cX5_runsFrom 35 = .ok (.iconst 0, 1) := by decide +kernel
theorem dX5_runsFrom_36 : decode cX5_runsFrom 36 = .ok (.ireturn, 1) := by decide +kernel
theorem dX5_isOld_0 : decode cX5_isOld 0 = .ok (.aload_n 0, 1) := by decide +kernel
theorem dX5_isOld_1 : decode cX5_isOld 1 = .ok (.getfield 81, 3) := by decide +kernel
theorem dX5_isOld_4 : decode cX5_isOld 4 = .ok (.iload_n 1, 1) := by decide +kernel
theorem dX5_isOld_5 : decode cX5_isOld 5 = .ok (.iaload, 1) := by decide +kernel
theorem dX5_isOld_6 : decode cX5_isOld 6 = .ok (.iconst (-1), 1) := by decide +kernel
theorem dX5_isOld_7 : decode cX5_isOld 7 = .ok (.if_icmp .ne 5, 3) := by decide +kernel
theorem dX5_isOld_10 : decode cX5_isOld 10 = .ok (.iconst 0, 1) := by decide +kernel
theorem dX5_isOld_11 : decode cX5_isOld 11 = .ok (.ireturn, 1) := by decide +kernel
theorem dX5_isOld_12 : decode cX5_isOld 12 = .ok (.aload_n 0, 1) := by decide +kernel
theorem dX5_isOld_13 : decode cX5_isOld 13 = .ok (.getfield 49, 3) := by decide +kernel
theorem dX5_isOld_16 : decode cX5_isOld 16 = .ok (.aload_n 0, 1) := by decide +kernel
theorem dX5_isOld_17 : decode cX5_isOld 17 = .ok (.getfield 81, 3) := by decide +kernel
theorem dX5_isOld_20 : decode cX5_isOld 20 = .ok (.iload_n 1, 1) := by decide +kernel
theorem dX5_isOld_21 : decode cX5_isOld 21 = .ok (.iaload, 1) := by decide +kernel
theorem dX5_isOld_22 : decode cX5_isOld 22 = .ok (.baload, 1) := by decide +kernel
theorem dX5_isOld_23 : decode cX5_isOld 23 = .ok (.ifCond .ne 39, 3) := by decide +kernel
theorem dX5_isOld_26 : decode cX5_isOld 26 = .ok (.aload_n 0, 1) := by decide +kernel
theorem dX5_isOld_27 : decode cX5_isOld 27 = .ok (.aload_n 0, 1) := by decide +kernel
theorem dX5_isOld_28 : decode cX5_isOld 28 = .ok (.getfield 81, 3) := by decide +kernel
theorem dX5_isOld_31 : decode cX5_isOld 31 = .ok (.iload_n 1, 1) := by decide +kernel
theorem dX5_isOld_32 : decode cX5_isOld 32 = .ok (.iaload, 1) := by decide +kernel
theorem dX5_isOld_33 : decode cX5_isOld 33 = .ok (.invokevirtual 153, 3) := by decide +kernel
theorem dX5_isOld_36 : decode cX5_isOld 36 = .ok (.ifCond .ne 26, 3) := by decide +kernel
theorem dX5_isOld_39 : decode cX5_isOld 39 = .ok (.aload_n 0, 1) := by decide +kernel
theorem dX5_isOld_40 : decode cX5_isOld 40 = .ok (.iload_n 1, 1) := by decide +kernel
theorem dX5_isOld_41 : decode cX5_isOld 41 = .ok (.invokevirtual 162, 3) := by decide +kernel
theorem dX5_isOld_44 : decode cX5_isOld 44 = .ok (.iconst (-1), 1) := by decide +kernel
theorem dX5_isOld_45 : decode cX5_isOld 45 = .ok (.if_icmp .eq 21, 3) := by decide +kernel
theorem dX5_isOld_48 : decode cX5_isOld 48 = .ok (.aload_n 0, 1) := by decide +kernel
theorem dX5_isOld_49 : decode cX5_isOld 49 = .ok (.iload_n 1, 1) := by decide +kernel
theorem dX5_isOld_50 : decode cX5_isOld 50 = .ok (.invokevirtual 162, 3) := by decide +kernel
theorem dX5_isOld_53 : decode cX5_isOld 53 = .ok (.aload_n 0, 1) := by decide +kernel
theorem dX5_isOld_54 : decode cX5_isOld 54 = .ok (.getfield 81, 3) := by decide +kernel
theorem dX5_isOld_57 : decode cX5_isOld 57 = .ok (.iload_n 1, 1) := by decide +kernel
theorem dX5_isOld_58 : decode cX5_isOld 58 = .ok (.iaload, 1) := by decide +kernel
theorem dX5_isOld_59 : decode cX5_isOld 59 = .ok (.if_icmp .eq 7, 3) := by decide +kernel
theorem dX5_isOld_62 : decode cX5_isOld 62 = .ok (.iconst 1, 1) := by decide +kernel
theorem dX5_isOld_63 : decode cX5_isOld 63 = .ok (.goto 4, 3) := by decide +kernel
theorem dX5_isOld_66 : decode cX5_isOld 66 = .ok (.iconst 0, 1) := by decide +kernel
theorem dX5_isOld_67 : decode cX5_isOld 67 = .ok (.ireturn, 1) := by decide +kernel
theorem dX5_old_0 : decode cX5_old 0 = .ok (.aload_n 0, 1) := by decide +kernel
theorem dX5_old_1 : decode cX5_old 1 = .ok (.iconst 0, 1) := by decide +kernel
theorem dX5_old_2 : decode cX5_old 2 = .ok (.putfield 90, 3) := by decide +kernel
theorem dX5_old_5 : decode cX5_old 5 = .ok (.iconst 0, 1) := by decide +kernel
theorem dX5_old_6 : decode cX5_old 6 = .ok (.istore_n 1, 1) := by decide +kernel
theorem dX5_old_7 : decode cX5_old 7 = .ok (.iconst 0, 1) := by decide +kernel
theorem dX5_old_8 : decode cX5_old 8 = .ok (.istore_n 2, 1) := by decide +kernel
theorem dX5_old_9 : decode cX5_old 9 = .ok (.iload_n 2, 1) := by decide +kernel
theorem dX5_old_10 : decode cX5_old 10 = .ok (.aload_n 0, 1) := by decide +kernel
theorem dX5_old_11 : decode cX5_old 11 = .ok (.getfield 147, 3) := by decide +kernel
theorem dX5_old_14 : decode cX5_old 14 = .ok (.if_icmp .ge 25, 3) := by decide +kernel
theorem dX5_old_17 : decode cX5_old 17 = .ok (.iload_n 1, 1) := by decide +kernel
theorem dX5_old_18 : decode cX5_old 18 = .ok (.aload_n 0, 1) := by decide +kernel
theorem dX5_old_19 : decode cX5_old 19 = .ok (.iload_n 2, 1) := by decide +kernel
theorem dX5_old_20 : decode cX5_old 20 = .ok (.invokevirtual 165, 3) := by decide +kernel
theorem dX5_old_23 : decode cX5_old 23 = .ok (.ifCond .eq 7, 3) := by decide +kernel
theorem dX5_old_26 : decode cX5_old 26 = .ok (.iconst 1, 1) := by decide +kernel
theorem dX5_old_27 : decode cX5_old 27 = .ok (.goto 4, 3) := by decide +kernel
theorem dX5_old_30 : decode cX5_old 30 = .ok (.iconst 0, 1) := by decide +kernel
theorem dX5_old_31 : decode cX5_old 31 = .ok (.iadd, 1) := by decide +kernel
theorem dX5_old_32 : decode cX5_old 32 = .ok (.istore_n 1, 1) := by decide +kernel
theorem dX5_old_33 : decode cX5_old 33 = .ok (.iinc 2 1, 3) := by decide +kernel
theorem dX5_old_36 : decode cX5_old 36 = .ok (.goto (-27), 3) := by decide +kernel
theorem dX5_old_39 : decode cX5_old 39 = .ok (.iload_n 1, 1) := by decide +kernel
theorem dX5_old_40 : decode cX5_old 40 = .ok (.ireturn, 1) := by decide +kernel
theorem dX5_isAhead_0 : decode cX5_isAhead 0 = .ok (.aload_n 0, 1) := by decide +kernel
theorem dX5_isAhead_1 : decode cX5_isAhead 1 = .ok (.getfield 81, 3) := by decide +kernel
theorem dX5_isAhead_4 : decode cX5_isAhead 4 = .ok (.iload_n 1, 1) := by decide +kernel
theorem dX5_isAhead_5 : decode cX5_isAhead 5 = .ok (.iaload, 1) := by decide +kernel
theorem dX5_isAhead_6 : decode cX5_isAhead 6 = .ok (.istore_n 3, 1) := by decide +kernel
theorem dX5_isAhead_7 : decode cX5_isAhead 7 = .ok (.aload_n 0, 1) := by decide +kernel
theorem dX5_isAhead_8 : decode cX5_isAhead 8 = .ok (.getfield 81, 3) := by decide +kernel
theorem dX5_isAhead_11 : decode cX5_isAhead 11 = .ok (.iload_n 2, 1) := by decide +kernel
theorem dX5_isAhead_12 : decode cX5_isAhead 12 = .ok (.iaload, 1) := by decide +kernel
theorem dX5_isAhead_13 : decode cX5_isAhead 13 = .ok (.istore 4, 2) := by decide +kernel
theorem dX5_isAhead_15 : decode cX5_isAhead 15 = .ok (.aload_n 0, 1) := by decide +kernel
theorem dX5_isAhead_16 : decode cX5_isAhead 16 = .ok (.getfield 49, 3) := by decide +kernel
theorem dX5_isAhead_19 : decode cX5_isAhead 19 = .ok (.iload_n 3, 1) := by decide +kernel
theorem dX5_isAhead_20 : decode cX5_isAhead 20 = .ok (.baload, 1) := by decide +kernel
theorem dX5_isAhead_21 : decode cX5_isAhead 21 = .ok (.aload_n 0, 1) := by decide +kernel
theorem dX5_isAhead_22 : decode cX5_isAhead 22 = .ok (.getfield 49, 3) := by decide +kernel
theorem dX5_isAhead_25 : decode cX5_isAhead 25 = .ok (.iload 4, 2) := by decide +kernel
theorem dX5_isAhead_27 : decode cX5_isAhead 27 = .ok (.baload, 1) := by decide +kernel
theorem dX5_isAhead_28 : decode cX5_isAhead 28 = .ok (.if_icmp .eq 10, 3) := by decide +kernel
theorem dX5_isAhead_31 : decode cX5_isAhead 31 = .ok (.aload_n 0, 1) := by decide +kernel
theorem dX5_isAhead_32 : decode cX5_isAhead 32 = .ok (.getfield 49, 3) := by decide +kernel
theorem dX5_isAhead_35 : decode cX5_isAhead 35 = .ok (.iload_n 3, 1) := by decide +kernel
theorem dX5_isAhead_36 : decode cX5_isAhead 36 = .ok (.baload, 1) := by decide +kernel
theorem dX5_isAhead_37 : decode cX5_isAhead 37 = .ok (.ireturn, 1) := by decide +kernel
theorem dX5_isAhead_38 : decode cX5_isAhead 38 = .ok (.aload_n 0, 1) := by decide +kernel
theorem dX5_isAhead_39 : decode cX5_isAhead 39 = .ok (.getfield 43, 3) := by decide +kernel
theorem dX5_isAhead_42 : decode cX5_isAhead 42 = .ok (.iload_n 3, 1) := by decide +kernel
theorem dX5_isAhead_43 : decode cX5_isAhead 43 = .ok (.iaload, 1) := by decide +kernel
theorem dX5_isAhead_44 : decode cX5_isAhead 44 = .ok (.aload_n 0, 1) := by decide +kernel
theorem dX5_isAhead_45 : decode cX5_isAhead 45 = .ok (.getfield 43, 3) := by decide +kernel
theorem dX5_isAhead_48 : decode cX5_isAhead 48 = .ok (.iload 4, 2) := by decide +kernel
theorem dX5_isAhead_50 : decode cX5_isAhead 50 = .ok (.iaload, 1) := by decide +kernel
theorem dX5_isAhead_51 : decode cX5_isAhead 51 = .ok (.if_icmp .eq 27, 3) := by decide +kernel
theorem dX5_isAhead_54 : decode cX5_isAhead 54 = .ok (.aload_n 0, 1) := by decide +kernel
theorem dX5_isAhead_55 : decode cX5_isAhead 55 = .ok (.getfield 43, 3) := by decide +kernel
theorem dX5_isAhead_58 : decode cX5_isAhead 58 = .ok (.iload_n 3, 1) := by decide +kernel
theorem dX5_isAhead_59 : decode cX5_isAhead 59 = .ok (.iaload, 1) := by decide +kernel
theorem dX5_isAhead_60 : decode cX5_isAhead 60 = .ok (.aload_n 0, 1) := by decide +kernel
theorem dX5_isAhead_61 : decode cX5_isAhead 61 = .ok (.getfield 43, 3) := by decide +kernel
theorem dX5_isAhead_64 : decode cX5_isAhead 64 = .ok (.iload 4, 2) := by decide +kernel
theorem dX5_isAhead_66 : decode cX5_isAhead 66 = .ok (.iaload, 1) := by decide +kernel
theorem dX5_isAhead_67 : decode cX5_isAhead 67 = .ok (.if_icmp .ge 7, 3) := by decide +kernel
theorem dX5_isAhead_70 : decode cX5_isAhead 70 = .ok (.iconst 1, 1) := by decide +kernel
theorem dX5_isAhead_71 : decode cX5_isAhead 71 = .ok (.goto 17, 3) := by decide +kernel
theorem dX5_isAhead_74 : decode cX5_isAhead 74 = .ok (.iconst 0, 1) := by decide +kernel
theorem dX5_isAhead_75 : decode cX5_isAhead 75 = .ok (.goto 13, 3) := by decide +kernel
theorem dX5_isAhead_78 : decode cX5_isAhead 78 = .ok (.iload_n 1, 1) := by decide +kernel
theorem dX5_isAhead_79 : decode cX5_isAhead 79 = .ok (.iload_n 2, 1) := by decide +kernel
theorem dX5_isAhead_80 : decode cX5_isAhead 80 = .ok (.if_icmp .ge 7, 3) := by decide +kernel
theorem dX5_isAhead_83 : decode cX5_isAhead 83 = .ok (.iconst 1, 1) := by decide +kernel
theorem dX5_isAhead_84 : decode cX5_isAhead 84 = .ok (.goto 4, 3) := by decide +kernel
theorem dX5_isAhead_87 : decode cX5_isAhead 87 = .ok (.iconst 0, 1) := by decide +kernel
theorem dX5_isAhead_88 : decode cX5_isAhead 88 = .ok (.ireturn, 1) := by decide +kernel
theorem dX5_oldAt_0 : decode cX5_oldAt 0 = .ok (.iconst 0, 1) := by decide +kernel
theorem dX5_oldAt_1 : decode cX5_oldAt 1 = .ok (.istore_n 2, 1) := by decide +kernel
theorem dX5_oldAt_2 : decode cX5_oldAt 2 = .ok (.iload_n 2, 1) := by decide +kernel
theorem dX5_oldAt_3 : decode cX5_oldAt 3 = .ok (.aload_n 0, 1) := by decide +kernel
theorem dX5_oldAt_4 : decode cX5_oldAt 4 = .ok (.getfield 147, 3) := by decide +kernel
theorem dX5_oldAt_7 : decode cX5_oldAt 7 = .ok (.if_icmp .ge 90, 3) := by decide +kernel
theorem dX5_oldAt_10 : decode cX5_oldAt 10 = .ok (.iconst 0, 1) := by decide +kernel
theorem dX5_oldAt_11 : decode cX5_oldAt 11 = .ok (.istore_n 3, 1) := by decide +kernel
theorem dX5_oldAt_12 : decode cX5_oldAt 12 = .ok (.iconst 0, 1) := by decide +kernel
theorem dX5_oldAt_13 : decode cX5_oldAt 13 = .ok (.istore 4, 2) := by decide +kernel
theorem dX5_oldAt_15 : decode cX5_oldAt 15 = .ok (.iload 4, 2) := by decide +kernel
theorem dX5_oldAt_17 : decode cX5_oldAt 17 = .ok (.aload_n 0, 1) := by decide +kernel
theorem dX5_oldAt_18 : decode cX5_oldAt 18 = .ok (.getfield 147, 3) := by decide +kernel
theorem dX5_oldAt_21 : decode cX5_oldAt 21 = .ok (.if_icmp .ge 50, 3) := by decide +kernel
theorem dX5_oldAt_24 : decode cX5_oldAt 24 = .ok (.aload_n 0, 1) := by decide +kernel
theorem dX5_oldAt_25 : decode cX5_oldAt 25 = .ok (.iload_n 2, 1) := by decide +kernel
theorem dX5_oldAt_26 : decode cX5_oldAt 26 = .ok (.invokevirtual 165, 3) := by decide +kernel
theorem dX5_oldAt_29 : decode cX5_oldAt 29 = .ok (.ifCond .eq 42, 3) := by decide +kernel
theorem dX5_oldAt_32 : decode cX5_oldAt 32 = .ok (.iload_n 3, 1) := by decide +kernel
theorem dX5_oldAt_33 : decode cX5_oldAt 33 = .ok (.iload 4, 2) := by decide +kernel
theorem dX5_oldAt_35 : decode cX5_oldAt 35 = .ok (.iload_n 2, 1) := by decide +kernel
theorem dX5_oldAt_36 : decode cX5_oldAt 36 = .ok (.if_icmp .eq 26, 3) := by decide +kernel
theorem dX5_oldAt_39 : decode cX5_oldAt 39 = .ok (.aload_n 0, 1) := by decide +kernel
theorem dX5_oldAt_40 : decode cX5_oldAt 40 = .ok (.iload 4, 2) := by decide +kernel
theorem dX5_oldAt_42 : decode cX5_oldAt 42 = .ok (.invokevirtual 165, 3) := by decide +kernel
theorem dX5_oldAt_45 : decode cX5_oldAt 45 = .ok (.ifCond .eq 17, 3) := by decide +kernel
theorem dX5_oldAt_48 : decode cX5_oldAt 48 = .ok (.aload_n 0, 1) := by decide +kernel
theorem dX5_oldAt_49 : decode cX5_oldAt 49 = .ok (.iload 4, 2) := by decide +kernel
theorem dX5_oldAt_51 : decode cX5_oldAt 51 = .ok (.iload_n 2, 1) := by decide +kernel
theorem dX5_oldAt_52 : decode cX5_oldAt 52 = .ok (.invokevirtual 168, 3) := by decide +kernel
theorem dX5_oldAt_55 : decode cX5_oldAt 55 = .ok (.ifCond .eq 7, 3) := by decide +kernel
theorem dX5_oldAt_58 : decode cX5_oldAt 58 = .ok (.iconst 1, 1) := by decide +kernel
theorem dX5_oldAt_59 : decode cX5_oldAt 59 = .ok (.goto 4, 3) := by decide +kernel
theorem dX5_oldAt_62 : decode cX5_oldAt 62 = .ok (.iconst 0, 1) := by decide +kernel
theorem dX5_oldAt_63 : decode cX5_oldAt 63 = .ok (.iadd, 1) := by decide +kernel
theorem dX5_oldAt_64 : decode cX5_oldAt 64 = .ok (.istore_n 3, 1) := by decide +kernel
theorem dX5_oldAt_65 : decode cX5_oldAt 65 = .ok (.iinc 4 1, 3) := by decide +kernel
theorem dX5_oldAt_68 : decode cX5_oldAt 68 = .ok (.goto (-53), 3) := by decide +kernel
theorem dX5_oldAt_71 : decode cX5_oldAt 71 = .ok (.aload_n 0, 1) := by decide +kernel
theorem dX5_oldAt_72 : decode cX5_oldAt 72 = .ok (.iload_n 2, 1) := by decide +kernel
theorem dX5_oldAt_73 : decode cX5_oldAt 73 = .ok (.invokevirtual 165, 3) := by decide +kernel
theorem dX5_oldAt_76 : decode cX5_oldAt 76 = .ok (.ifCond .eq 15, 3) := by decide +kernel
theorem dX5_oldAt_79 : decode cX5_oldAt 79 = .ok (.iload_n 3, 1) := by decide +kernel
theorem dX5_oldAt_80 : decode cX5_oldAt 80 = .ok (.iload_n 1, 1) := by decide +kernel
theorem dX5_oldAt_81 : decode cX5_oldAt 81 = .ok (.if_icmp .ne 10, 3) := by decide +kernel
theorem dX5_oldAt_84 : decode cX5_oldAt 84 = .ok (.aload_n 0, 1) := by decide +kernel
theorem dX5_oldAt_85 : decode cX5_oldAt 85 = .ok (.iconst 0, 1) := by decide +kernel
theorem dX5_oldAt_86 : decode cX5_oldAt 86 = .ok (.putfield 90, 3) := by decide +kernel
theorem dX5_oldAt_89 : decode cX5_oldAt 89 = .ok (.iload_n 2, 1) := by decide +kernel
theorem dX5_oldAt_90 : decode cX5_oldAt 90 = .ok (.ireturn, 1) := by decide +kernel
theorem dX5_oldAt_91 : decode cX5_oldAt 91 = .ok (.iinc 2 1, 3) := by decide +kernel
theorem dX5_oldAt_94 : decode cX5_oldAt 94 = .ok (.goto (-92), 3) := by decide +kernel
theorem dX5_oldAt_97 : decode cX5_oldAt 97 = .ok (.aload_n 0, 1) := by decide +kernel
theorem dX5_oldAt_98 : decode cX5_oldAt 98 = .ok (.iconst 1, 1) := by decide +kernel
theorem dX5_oldAt_99 : decode cX5_oldAt 99 = .ok (.putfield 90, 3) := by decide +kernel
theorem dX5_oldAt_102 : decode cX5_oldAt 102 = .ok (.iconst 0, 1) := by decide +kernel
theorem dX5_oldAt_103 : decode cX5_oldAt 103 = .ok (.ireturn, 1) := by decide +kernel
theorem dL_add_0 : decode cL_add 0 = .ok (.aload_n 2, 1) := by decide +kernel
theorem dL_add_1 : decode cL_add 1 = .ok (.iconst 0, 1) := by decide +kernel
theorem dL_add_2 : decode cL_add 2 = .ok (.aload_n 0, 1) := by decide +kernel
theorem dL_add_3 : decode cL_add 3 = .ok (.iload_n 1, 1) := by decide +kernel
theorem dL_add_4 : decode cL_add 4 = .ok (.invokevirtual 7, 3) := by decide +kernel
theorem dL_add_7 : decode cL_add 7 = .ok (.i2l, 1) := by decide +kernel
theorem dL_add_8 : decode cL_add 8 = .ok (.lastore, 1) := by decide +kernel
theorem dL_add_9 : decode cL_add 9 = .ok (.goto 9, 3) := by decide +kernel
theorem dL_add_12 : decode cL_add 12 = .ok (.astore_n 3, 1) := by decide +kernel
theorem dL_add_13 : decode cL_add 13 = .ok (.iconst 1, 1) := by decide +kernel
theorem dL_add_14 : decode cL_add 14 = .ok (.ireturn, 1) := by decide +kernel
theorem dL_add_15 : decode cL_add 15 = .ok (.astore_n 3, 1) := by decide +kernel
theorem dL_add_16 : decode cL_add 16 = .ok (.iconst 2, 1) := by decide +kernel
theorem dL_add_17 : decode cL_add 17 = .ok (.ireturn, 1) := by decide +kernel
theorem dL_add_18 : decode cL_add 18 = .ok (.iconst 0, 1) := by decide +kernel
theorem dL_add_19 : decode cL_add 19 = .ok (.ireturn, 1) := by decide +kernel
theorem dL_step_0 : decode cL_step 0 = .ok (.aload_n 3, 1) := by decide +kernel
theorem dL_step_1 : decode cL_step 1 = .ok (.iconst 0, 1) := by decide +kernel
theorem dL_step_2 : decode cL_step 2 = .ok (.aload_n 0, 1) := by decide +kernel
theorem dL_step_3 : decode cL_step 3 = .ok (.iload_n 1, 1) := by decide +kernel
theorem dL_step_4 : decode cL_step 4 = .ok (.iload_n 2, 1) := by decide +kernel
theorem dL_step_5 : decode cL_step 5 = .ok (.invokevirtual 17, 3) := by decide +kernel
theorem dL_step_8 : decode cL_step 8 = .ok (.i2l, 1) := by decide +kernel
theorem dL_step_9 : decode cL_step 9 = .ok (.lastore, 1) := by decide +kernel
theorem dL_step_10 : decode cL_step 10 = .ok (.goto 15, 3) := by decide +kernel
theorem dL_step_13 : decode cL_step 13 = .ok (.astore 4, 2) := by decide +kernel
theorem dL_step_15 : decode cL_step 15 = .ok (.iconst 1, 1) := by decide +kernel
theorem dL_step_16 : decode cL_step 16 = .ok (.ireturn, 1) := by decide +kernel
theorem dL_step_17 : decode cL_step 17 = .ok (.astore 4, 2) := by decide +kernel
theorem dL_step_19 : decode cL_step 19 = .ok (.iconst 2, 1) := by decide +kernel
theorem dL_step_20 : decode cL_step 20 = .ok (.ireturn, 1) := by decide +kernel
theorem dL_step_21 : decode cL_step 21 = .ok (.astore 4, 2) := by decide +kernel
theorem dL_step_23 : decode cL_step 23 = .ok (.iconst 3, 1) := by decide +kernel
theorem dL_step_24 : decode cL_step 24 = .ok (.ireturn, 1) := by decide +kernel
theorem dL_step_25 : decode cL_step 25 = .ok (.iconst 0, 1) := by decide +kernel
theorem dL_step_26 : decode cL_step 26 = .ok (.ireturn, 1) := by decide +kernel
theorem dL_change_0 : decode cL_change 0 = .ok (.aload_n 3, 1) := by decide +kernel
theorem dL_change_1 : decode cL_change 1 = .ok (.iconst 0, 1) := by decide +kernel
theorem dL_change_2 : decode cL_change 2 = .ok (.aload_n 0, 1) := by decide +kernel
theorem dL_change_3 : decode cL_change 3 = .ok (.iload_n 1, 1) := by decide +kernel
theorem dL_change_4 : decode cL_change 4 = .ok (.iload_n 2, 1) := by decide +kernel
theorem dL_change_5 : decode cL_change 5 = .ok (.invokevirtual 23, 3) := by decide +kernel
theorem dL_change_8 : decode cL_change 8 = .ok (.i2l, 1) := by decide +kernel
theorem dL_change_9 : decode cL_change 9 = .ok (.lastore, 1) := by decide +kernel
theorem dL_change_10 : decode cL_change 10 = .ok (.goto 7, 3) := by decide +kernel
theorem dL_change_13 : decode cL_change 13 = .ok (.astore 4, 2) := by decide +kernel
theorem dL_change_15 : decode cL_change 15 = .ok (.iconst 1, 1) := by decide +kernel
theorem dL_change_16 : decode cL_change 16 = .ok (.ireturn, 1) := by decide +kernel
theorem dL_change_17 : decode cL_change 17 = .ok (.iconst 0, 1) := by decide +kernel
theorem dL_change_18 : decode cL_change 18 = .ok (.ireturn, 1) := by decide +kernel
theorem dL_bake_0 : decode cL_bake 0 = .ok (.aload_n 2, 1) := by decide +kernel
theorem dL_bake_1 : decode cL_bake 1 = .ok (.iconst 0, 1) := by decide +kernel
theorem dL_bake_2 : decode cL_bake 2 = .ok (.aload_n 0, 1) := by decide +kernel
theorem dL_bake_3 : decode cL_bake 3 = .ok (.iload_n 1, 1) := by decide +kernel
theorem dL_bake_4 : decode cL_bake 4 = .ok (.invokevirtual 26, 3) := by decide +kernel
theorem dL_bake_7 : decode cL_bake 7 = .ok (.i2l, 1) := by decide +kernel
theorem dL_bake_8 : decode cL_bake 8 = .ok (.lastore, 1) := by decide +kernel
theorem dL_bake_9 : decode cL_bake 9 = .ok (.goto 9, 3) := by decide +kernel
theorem dL_bake_12 : decode cL_bake 12 = .ok (.astore_n 3, 1) := by decide +kernel
theorem dL_bake_13 : decode cL_bake 13 = .ok (.iconst 1, 1) := by decide +kernel
theorem dL_bake_14 : decode cL_bake 14 = .ok (.ireturn, 1) := by decide +kernel
theorem dL_bake_15 : decode cL_bake 15 = .ok (.astore_n 3, 1) := by decide +kernel
theorem dL_bake_16 : decode cL_bake 16 = .ok (.iconst 2, 1) := by decide +kernel
theorem dL_bake_17 : decode cL_bake 17 = .ok (.ireturn, 1) := by decide +kernel
theorem dL_bake_18 : decode cL_bake 18 = .ok (.iconst 0, 1) := by decide +kernel
theorem dL_bake_19 : decode cL_bake 19 = .ok (.ireturn, 1) := by decide +kernel
theorem dL_bakeAll_0 : decode cL_bakeAll 0 = .ok (.aload_n 1, 1) := by decide +kernel
theorem dL_bakeAll_1 : decode cL_bakeAll 1 = .ok (.iconst 0, 1) := by decide +kernel
theorem dL_bakeAll_2 : decode cL_bakeAll 2 = .ok (.aload_n 0, 1) := by decide +kernel
theorem dL_bakeAll_3 : decode cL_bakeAll 3 = .ok (.invokevirtual 29, 3) := by decide +kernel
theorem dL_bakeAll_6 : decode cL_bakeAll 6 = .ok (.i2l, 1) := by decide +kernel
theorem dL_bakeAll_7 : decode cL_bakeAll 7 = .ok (.lastore, 1) := by decide +kernel
theorem dL_bakeAll_8 : decode cL_bakeAll 8 = .ok (.goto 6, 3) := by decide +kernel
theorem dL_bakeAll_11 : decode cL_bakeAll 11 = .ok (.astore_n 2, 1) := by decide +kernel
theorem dL_bakeAll_12 : decode cL_bakeAll 12 = .ok (.iconst 1, 1) := by decide +kernel
theorem dL_bakeAll_13 : decode cL_bakeAll 13 = .ok (.ireturn, 1) := by decide +kernel
theorem dL_bakeAll_14 : decode cL_bakeAll 14 = .ok (.iconst 0, 1) := by decide +kernel
theorem dL_bakeAll_15 : decode cL_bakeAll 15 = .ok (.ireturn, 1) := by decide +kernel
theorem dL_isFresh_0 : decode cL_isFresh 0 = .ok (.aload_n 2, 1) := by decide +kernel
theorem dL_isFresh_1 : decode cL_isFresh 1 = .ok (.iconst 0, 1) := by decide +kernel
theorem dL_isFresh_2 : decode cL_isFresh 2 = .ok (.aload_n 0, 1) := by decide +kernel
theorem dL_isFresh_3 : decode cL_isFresh 3 = .ok (.iload_n 1, 1) := by decide +kernel
theorem dL_isFresh_4 : decode cL_isFresh 4 = .ok (.invokevirtual 33, 3) := by decide +kernel
theorem dL_isFresh_7 : decode cL_isFresh 7 = .ok (.ifCond .eq 7, 3) := by decide +kernel
theorem dL_isFresh_10 : decode cL_isFresh 10 = .ok (.lconst 1, 1) := by decide +kernel
theorem dL_isFresh_11 : decode cL_isFresh 11 = .ok (.goto 4, 3) := by decide +kernel
theorem dL_isFresh_14 : decode cL_isFresh 14 = .ok (.lconst 0, 1) := by decide +kernel
theorem dL_isFresh_15 : decode cL_isFresh 15 = .ok (.lastore, 1) := by decide +kernel
theorem dL_isFresh_16 : decode cL_isFresh 16 = .ok (.goto 6, 3) := by decide +kernel
theorem dL_isFresh_19 : decode cL_isFresh 19 = .ok (.astore_n 3, 1) := by decide +kernel
theorem dL_isFresh_20 : decode cL_isFresh 20 = .ok (.iconst 1, 1) := by decide +kernel
theorem dL_isFresh_21 : decode cL_isFresh 21 = .ok (.ireturn, 1) := by decide +kernel
theorem dL_isFresh_22 : decode cL_isFresh 22 = .ok (.iconst 0, 1) := by decide +kernel
theorem dL_isFresh_23 : decode cL_isFresh 23 = .ok (.ireturn, 1) := by decide +kernel
theorem dL_isFreshAnew_0 : decode cL_isFreshAnew 0 = .ok (.aload_n 2, 1) := by decide +kernel
theorem dL_isFreshAnew_1 : decode cL_isFreshAnew 1 = .ok (.iconst 0, 1) := by decide +kernel
theorem dL_isFreshAnew_2 : decode cL_isFreshAnew 2 = .ok (.aload_n 0, 1) := by decide +kernel
theorem dL_isFreshAnew_3 : decode cL_isFreshAnew 3 = .ok (.iload_n 1, 1) := by decide +kernel
theorem dL_isFreshAnew_4 : decode cL_isFreshAnew 4 = .ok (.invokevirtual 37, 3) := by decide +kernel
theorem dL_isFreshAnew_7 : decode cL_isFreshAnew 7 = .ok (.ifCond .eq 7, 3) := by decide +kernel
theorem dL_isFreshAnew_10 : decode cL_isFreshAnew 10 = .ok (.lconst 1, 1) := by decide +kernel
theorem dL_isFreshAnew_11 : decode cL_isFreshAnew 11 = .ok (.goto 4, 3) := by decide +kernel
theorem dL_isFreshAnew_14 : decode cL_isFreshAnew 14 = .ok (.lconst 0, 1) := by decide +kernel
theorem dL_isFreshAnew_15 : decode cL_isFreshAnew 15 = .ok (.lastore, 1) := by decide +kernel
theorem dL_isFreshAnew_16 : decode cL_isFreshAnew 16 = .ok (.goto 6, 3) := by decide +kernel
theorem dL_isFreshAnew_19 : decode cL_isFreshAnew 19 = .ok (.astore_n 3, 1) := by decide +kernel
theorem dL_isFreshAnew_20 : decode cL_isFreshAnew 20 = .ok (.iconst 1, 1) := by decide +kernel
theorem dL_isFreshAnew_21 : decode cL_isFreshAnew 21 = .ok (.ireturn, 1) := by decide +kernel
theorem dL_isFreshAnew_22 : decode cL_isFreshAnew 22 = .ok (.iconst 0, 1) := by decide +kernel
theorem dL_isFreshAnew_23 : decode cL_isFreshAnew 23 = .ok (.ireturn, 1) := by decide +kernel
theorem dL_latest_0 : decode cL_latest 0 = .ok (.aload_n 2, 1) := by decide +kernel
theorem dL_latest_1 : decode cL_latest 1 = .ok (.iconst 0, 1) := by decide +kernel
theorem dL_latest_2 : decode cL_latest 2 = .ok (.aload_n 0, 1) := by decide +kernel
theorem dL_latest_3 : decode cL_latest 3 = .ok (.iload_n 1, 1) := by decide +kernel
theorem dL_latest_4 : decode cL_latest 4 = .ok (.invokevirtual 40, 3) := by decide +kernel
theorem dL_latest_7 : decode cL_latest 7 = .ok (.i2l, 1) := by decide +kernel
theorem dL_latest_8 : decode cL_latest 8 = .ok (.lastore, 1) := by decide +kernel
theorem dL_latest_9 : decode cL_latest 9 = .ok (.goto 6, 3) := by decide +kernel
theorem dL_latest_12 : decode cL_latest 12 = .ok (.astore_n 3, 1) := by decide +kernel
theorem dL_latest_13 : decode cL_latest 13 = .ok (.iconst 1, 1) := by decide +kernel
theorem dL_latest_14 : decode cL_latest 14 = .ok (.ireturn, 1) := by decide +kernel
theorem dL_latest_15 : decode cL_latest 15 = .ok (.iconst 0, 1) := by decide +kernel
theorem dL_latest_16 : decode cL_latest 16 = .ok (.ireturn, 1) := by decide +kernel
theorem dL_top_0 : decode cL_top 0 = .ok (.aload_n 2, 1) := by decide +kernel
theorem dL_top_1 : decode cL_top 1 = .ok (.iconst 0, 1) := by decide +kernel
theorem dL_top_2 : decode cL_top 2 = .ok (.aload_n 0, 1) := by decide +kernel
theorem dL_top_3 : decode cL_top 3 = .ok (.iload_n 1, 1) := by decide +kernel
theorem dL_top_4 : decode cL_top 4 = .ok (.invokevirtual 43, 3) := by decide +kernel
theorem dL_top_7 : decode cL_top 7 = .ok (.i2l, 1) := by decide +kernel
theorem dL_top_8 : decode cL_top 8 = .ok (.lastore, 1) := by decide +kernel
theorem dL_top_9 : decode cL_top 9 = .ok (.goto 6, 3) := by decide +kernel
theorem dL_top_12 : decode cL_top 12 = .ok (.astore_n 3, 1) := by decide +kernel
theorem dL_top_13 : decode cL_top 13 = .ok (.iconst 1, 1) := by decide +kernel
theorem dL_top_14 : decode cL_top 14 = .ok (.ireturn, 1) := by decide +kernel
theorem dL_top_15 : decode cL_top 15 = .ok (.iconst 0, 1) := by decide +kernel
theorem dL_top_16 : decode cL_top 16 = .ok (.ireturn, 1) := by decide +kernel
theorem dL_test_0 : decode cL_test 0 = .ok (.aload_n 3, 1) := by decide +kernel
theorem dL_test_1 : decode cL_test 1 = .ok (.iconst 0, 1) := by decide +kernel
theorem dL_test_2 : decode cL_test 2 = .ok (.aload_n 0, 1) := by decide +kernel
theorem dL_test_3 : decode cL_test 3 = .ok (.iload_n 1, 1) := by decide +kernel
theorem dL_test_4 : decode cL_test 4 = .ok (.iload_n 2, 1) := by decide +kernel
theorem dL_test_5 : decode cL_test 5 = .ok (.invokevirtual 46, 3) := by decide +kernel
theorem dL_test_8 : decode cL_test 8 = .ok (.ifCond .eq 7, 3) := by decide +kernel
theorem dL_test_11 : decode cL_test 11 = .ok (.lconst 1, 1) := by decide +kernel
theorem dL_test_12 : decode cL_test 12 = .ok (.goto 4, 3) := by decide +kernel
theorem dL_test_15 : decode cL_test 15 = .ok (.lconst 0, 1) := by decide +kernel
theorem dL_test_16 : decode cL_test 16 = .ok (.lastore, 1) := by decide +kernel
theorem dL_test_17 : decode cL_test 17 = .ok (.goto 11, 3) := by decide +kernel
theorem dL_test_20 : decode cL_test 20 = .ok (.astore 4, 2) := by decide +kernel
theorem dL_test_22 : decode cL_test 22 = .ok (.iconst 1, 1) := by decide +kernel
theorem dL_test_23 : decode cL_test 23 = .ok (.ireturn, 1) := by decide +kernel
theorem dL_test_24 : decode cL_test 24 = .ok (.astore 4, 2) := by decide +kernel
theorem dL_test_26 : decode cL_test 26 = .ok (.iconst 2, 1) := by decide +kernel
theorem dL_test_27 : decode cL_test 27 = .ok (.ireturn, 1) := by decide +kernel
theorem dL_test_28 : decode cL_test 28 = .ok (.iconst 0, 1) := by decide +kernel
theorem dL_test_29 : decode cL_test 29 = .ok (.ireturn, 1) := by decide +kernel
theorem dL_hold_0 : decode cL_hold 0 = .ok (.aload_n 2, 1) := by decide +kernel
theorem dL_hold_1 : decode cL_hold 1 = .ok (.iconst 0, 1) := by decide +kernel
theorem dL_hold_2 : decode cL_hold 2 = .ok (.aload_n 0, 1) := by decide +kernel
theorem dL_hold_3 : decode cL_hold 3 = .ok (.iload_n 1, 1) := by decide +kernel
theorem dL_hold_4 : decode cL_hold 4 = .ok (.invokevirtual 50, 3) := by decide +kernel
theorem dL_hold_7 : decode cL_hold 7 = .ok (.i2l, 1) := by decide +kernel
theorem dL_hold_8 : decode cL_hold 8 = .ok (.lastore, 1) := by decide +kernel
theorem dL_hold_9 : decode cL_hold 9 = .ok (.goto 9, 3) := by decide +kernel
theorem dL_hold_12 : decode cL_hold 12 = .ok (.astore_n 3, 1) := by decide +kernel
theorem dL_hold_13 : decode cL_hold 13 = .ok (.iconst 1, 1) := by decide +kernel
theorem dL_hold_14 : decode cL_hold 14 = .ok (.ireturn, 1) := by decide +kernel
theorem dL_hold_15 : decode cL_hold 15 = .ok (.astore_n 3, 1) := by decide +kernel
theorem dL_hold_16 : decode cL_hold 16 = .ok (.iconst 2, 1) := by decide +kernel
theorem dL_hold_17 : decode cL_hold 17 = .ok (.ireturn, 1) := by decide +kernel
theorem dL_hold_18 : decode cL_hold 18 = .ok (.iconst 0, 1) := by decide +kernel
theorem dL_hold_19 : decode cL_hold 19 = .ok (.ireturn, 1) := by decide +kernel
theorem dL_raise_0 : decode cL_raise 0 = .ok (.aload_n 2, 1) := by decide +kernel
theorem dL_raise_1 : decode cL_raise 1 = .ok (.iconst 0, 1) := by decide +kernel
theorem dL_raise_2 : decode cL_raise 2 = .ok (.aload_n 0, 1) := by decide +kernel
theorem dL_raise_3 : decode cL_raise 3 = .ok (.iload_n 1, 1) := by decide +kernel
theorem dL_raise_4 : decode cL_raise 4 = .ok (.invokevirtual 53, 3) := by decide +kernel
theorem dL_raise_7 : decode cL_raise 7 = .ok (.i2l, 1) := by decide +kernel
theorem dL_raise_8 : decode cL_raise 8 = .ok (.lastore, 1) := by decide +kernel
theorem dL_raise_9 : decode cL_raise 9 = .ok (.goto 9, 3) := by decide +kernel
theorem dL_raise_12 : decode cL_raise 12 = .ok (.astore_n 3, 1) := by decide +kernel
theorem dL_raise_13 : decode cL_raise 13 = .ok (.iconst 1, 1) := by decide +kernel
theorem dL_raise_14 : decode cL_raise 14 = .ok (.ireturn, 1) := by decide +kernel
theorem dL_raise_15 : decode cL_raise 15 = .ok (.astore_n 3, 1) := by decide +kernel
theorem dL_raise_16 : decode cL_raise 16 = .ok (.iconst 2, 1) := by decide +kernel
theorem dL_raise_17 : decode cL_raise 17 = .ok (.ireturn, 1) := by decide +kernel
theorem dL_raise_18 : decode cL_raise 18 = .ok (.iconst 0, 1) := by decide +kernel
theorem dL_raise_19 : decode cL_raise 19 = .ok (.ireturn, 1) := by decide +kernel
theorem dL_copy_0 : decode cL_copy 0 = .ok (.aload_n 3, 1) := by decide +kernel
theorem dL_copy_1 : decode cL_copy 1 = .ok (.iconst 0, 1) := by decide +kernel
theorem dL_copy_2 : decode cL_copy 2 = .ok (.aload_n 0, 1) := by decide +kernel
theorem dL_copy_3 : decode cL_copy 3 = .ok (.iload_n 1, 1) := by decide +kernel
theorem dL_copy_4 : decode cL_copy 4 = .ok (.iload_n 2, 1) := by decide +kernel
theorem dL_copy_5 : decode cL_copy 5 = .ok (.invokevirtual 56, 3) := by decide +kernel
theorem dL_copy_8 : decode cL_copy 8 = .ok (.i2l, 1) := by decide +kernel
theorem dL_copy_9 : decode cL_copy 9 = .ok (.lastore, 1) := by decide +kernel
theorem dL_copy_10 : decode cL_copy 10 = .ok (.goto 15, 3) := by decide +kernel
theorem dL_copy_13 : decode cL_copy 13 = .ok (.astore 4, 2) := by decide +kernel
theorem dL_copy_15 : decode cL_copy 15 = .ok (.iconst 1, 1) := by decide +kernel
theorem dL_copy_16 : decode cL_copy 16 = .ok (.ireturn, 1) := by decide +kernel
theorem dL_copy_17 : decode cL_copy 17 = .ok (.astore 4, 2) := by decide +kernel
theorem dL_copy_19 : decode cL_copy 19 = .ok (.iconst 2, 1) := by decide +kernel
theorem dL_copy_20 : decode cL_copy 20 = .ok (.ireturn, 1) := by decide +kernel
theorem dL_copy_21 : decode cL_copy 21 = .ok (.astore 4, 2) := by decide +kernel
theorem dL_copy_23 : decode cL_copy 23 = .ok (.iconst 3, 1) := by decide +kernel
theorem dL_copy_24 : decode cL_copy 24 = .ok (.ireturn, 1) := by decide +kernel
theorem dL_copy_25 : decode cL_copy 25 = .ok (.iconst 0, 1) := by decide +kernel
theorem dL_copy_26 : decode cL_copy 26 = .ok (.ireturn, 1) := by decide +kernel
theorem dL_setRules_0 : decode cL_setRules 0 = .ok (.aload_n 0, 1) := by decide +kernel
theorem dL_setRules_1 : decode cL_setRules 1 = .ok (.iload_n 1, 1) := by decide +kernel
theorem dL_setRules_2 : decode cL_setRules 2 = .ok (.iload_n 2, 1) := by decide +kernel
theorem dL_setRules_3 : decode cL_setRules 3 = .ok (.iload_n 3, 1) := by decide +kernel
theorem dL_setRules_4 : decode cL_setRules 4 = .ok (.iload 4, 2) := by decide +kernel
theorem dL_setRules_6 : decode cL_setRules 6 = .ok (.invokevirtual 59, 3) := by decide +kernel
theorem dL_setRules_9 : decode cL_setRules 9 = .ok (.goto 7, 3) := by decide +kernel
theorem dL_setRules_12 : decode cL_setRules 12 = .ok (.astore 5, 2) := by decide +kernel
theorem dL_setRules_14 : decode cL_setRules 14 = .ok (.iconst 1, 1) := by decide +kernel
theorem dL_setRules_15 : decode cL_setRules 15 = .ok (.ireturn, 1) := by decide +kernel
theorem dL_setRules_16 : decode cL_setRules 16 = .ok (.iconst 0, 1) := by decide +kernel
theorem dL_setRules_17 : decode cL_setRules 17 = .ok (.ireturn, 1) := by decide +kernel
theorem dL_pass_0 : decode cL_pass 0 = .ok (.aload_n 2, 1) := by decide +kernel
theorem dL_pass_1 : decode cL_pass 1 = .ok (.iconst 0, 1) := by decide +kernel
theorem dL_pass_2 : decode cL_pass 2 = .ok (.aload_n 0, 1) := by decide +kernel
theorem dL_pass_3 : decode cL_pass 3 = .ok (.iload_n 1, 1) := by decide +kernel
theorem dL_pass_4 : decode cL_pass 4 = .ok (.invokevirtual 63, 3) := by decide +kernel
theorem dL_pass_7 : decode cL_pass 7 = .ok (.i2l, 1) := by decide +kernel
theorem dL_pass_8 : decode cL_pass 8 = .ok (.lastore, 1) := by decide +kernel
theorem dL_pass_9 : decode cL_pass 9 = .ok (.goto 6, 3) := by decide +kernel
theorem dL_pass_12 : decode cL_pass 12 = .ok (.astore_n 3, 1) := by decide +kernel
theorem dL_pass_13 : decode cL_pass 13 = .ok (.iconst 1, 1) := by decide +kernel
theorem dL_pass_14 : decode cL_pass 14 = .ok (.ireturn, 1) := by decide +kernel
theorem dL_pass_15 : decode cL_pass 15 = .ok (.iconst 0, 1) := by decide +kernel
theorem dL_pass_16 : decode cL_pass 16 = .ok (.ireturn, 1) := by decide +kernel
theorem dL_state_0 : decode cL_state 0 = .ok (.aload_n 2, 1) := by decide +kernel
theorem dL_state_1 : decode cL_state 1 = .ok (.iconst 0, 1) := by decide +kernel
theorem dL_state_2 : decode cL_state 2 = .ok (.aload_n 0, 1) := by decide +kernel
theorem dL_state_3 : decode cL_state 3 = .ok (.iload_n 1, 1) := by decide +kernel
theorem dL_state_4 : decode cL_state 4 = .ok (.invokevirtual 66, 3) := by decide +kernel
theorem dL_state_7 : decode cL_state 7 = .ok (.i2l, 1) := by decide +kernel
theorem dL_state_8 : decode cL_state 8 = .ok (.lastore, 1) := by decide +kernel
theorem dL_state_9 : decode cL_state 9 = .ok (.goto 6, 3) := by decide +kernel
theorem dL_state_12 : decode cL_state 12 = .ok (.astore_n 3, 1) := by decide +kernel
theorem dL_state_13 : decode cL_state 13 = .ok (.iconst 1, 1) := by decide +kernel
theorem dL_state_14 : decode cL_state 14 = .ok (.ireturn, 1) := by decide +kernel
theorem dL_state_15 : decode cL_state 15 = .ok (.iconst 0, 1) := by decide +kernel
theorem dL_state_16 : decode cL_state 16 = .ok (.ireturn, 1) := by decide +kernel
theorem dL_start_0 : decode cL_start 0 = .ok (.aload 4, 2) := by decide +kernel
theorem dL_start_2 : decode cL_start 2 = .ok (.iconst 0, 1) := by decide +kernel
theorem dL_start_3 : decode cL_start 3 = .ok (.aload_n 0, 1) := by decide +kernel
theorem dL_start_4 : decode cL_start 4 = .ok (.iload_n 1, 1) := by decide +kernel
theorem dL_start_5 : decode cL_start 5 = .ok (.iload_n 2, 1) := by decide +kernel
theorem dL_start_6 : decode cL_start 6 = .ok (.iload_n 3, 1) := by decide +kernel
theorem dL_start_7 : decode cL_start 7 = .ok (.invokevirtual 69, 3) := by decide +kernel
theorem dL_start_10 : decode cL_start 10 = .ok (.i2l, 1) := by decide +kernel
theorem dL_start_11 : decode cL_start 11 = .ok (.lastore, 1) := by decide +kernel
theorem dL_start_12 : decode cL_start 12 = .ok (.goto 15, 3) := by decide +kernel
theorem dL_start_15 : decode cL_start 15 = .ok (.astore 5, 2) := by decide +kernel
theorem dL_start_17 : decode cL_start 17 = .ok (.iconst 1, 1) := by decide +kernel
theorem dL_start_18 : decode cL_start 18 = .ok (.ireturn, 1) := by decide +kernel
theorem dL_start_19 : decode cL_start 19 = .ok (.astore 5, 2) := by decide +kernel
theorem dL_start_21 : decode cL_start 21 = .ok (.iconst 2, 1) := by decide +kernel
theorem dL_start_22 : decode cL_start 22 = .ok (.ireturn, 1) := by decide +kernel
theorem dL_start_23 : decode cL_start 23 = .ok (.astore 5, 2) := by decide +kernel
theorem dL_start_25 : decode cL_start 25 = .ok (.iconst 3, 1) := by decide +kernel
theorem dL_start_26 : decode cL_start 26 = .ok (.ireturn, 1) := by decide +kernel
theorem dL_start_27 : decode cL_start 27 = .ok (.iconst 0, 1) := by decide +kernel
theorem dL_start_28 : decode cL_start 28 = .ok (.ireturn, 1) := by decide +kernel
theorem dL_renew_0 : decode cL_renew 0 = .ok (.aload_n 2, 1) := by decide +kernel
theorem dL_renew_1 : decode cL_renew 1 = .ok (.iconst 0, 1) := by decide +kernel
theorem dL_renew_2 : decode cL_renew 2 = .ok (.aload_n 0, 1) := by decide +kernel
theorem dL_renew_3 : decode cL_renew 3 = .ok (.iload_n 1, 1) := by decide +kernel
theorem dL_renew_4 : decode cL_renew 4 = .ok (.invokevirtual 73, 3) := by decide +kernel
theorem dL_renew_7 : decode cL_renew 7 = .ok (.i2l, 1) := by decide +kernel
theorem dL_renew_8 : decode cL_renew 8 = .ok (.lastore, 1) := by decide +kernel
theorem dL_renew_9 : decode cL_renew 9 = .ok (.goto 9, 3) := by decide +kernel
theorem dL_renew_12 : decode cL_renew 12 = .ok (.astore_n 3, 1) := by decide +kernel
theorem dL_renew_13 : decode cL_renew 13 = .ok (.iconst 1, 1) := by decide +kernel
theorem dL_renew_14 : decode cL_renew 14 = .ok (.ireturn, 1) := by decide +kernel
theorem dL_renew_15 : decode cL_renew 15 = .ok (.astore_n 3, 1) := by decide +kernel
theorem dL_renew_16 : decode cL_renew 16 = .ok (.iconst 2, 1) := by decide +kernel
theorem dL_renew_17 : decode cL_renew 17 = .ok (.ireturn, 1) := by decide +kernel
theorem dL_renew_18 : decode cL_renew 18 = .ok (.iconst 0, 1) := by decide +kernel
theorem dL_renew_19 : decode cL_renew 19 = .ok (.ireturn, 1) := by decide +kernel
theorem dL_stop_0 : decode cL_stop 0 = .ok (.aload_n 2, 1) := by decide +kernel
theorem dL_stop_1 : decode cL_stop 1 = .ok (.iconst 0, 1) := by decide +kernel
theorem dL_stop_2 : decode cL_stop 2 = .ok (.aload_n 0, 1) := by decide +kernel
theorem dL_stop_3 : decode cL_stop 3 = .ok (.iload_n 1, 1) := by decide +kernel
theorem dL_stop_4 : decode cL_stop 4 = .ok (.invokevirtual 76, 3) := by decide +kernel
theorem dL_stop_7 : decode cL_stop 7 = .ok (.i2l, 1) := by decide +kernel
theorem dL_stop_8 : decode cL_stop 8 = .ok (.lastore, 1) := by decide +kernel
theorem dL_stop_9 : decode cL_stop 9 = .ok (.goto 6, 3) := by decide +kernel
theorem dL_stop_12 : decode cL_stop 12 = .ok (.astore_n 3, 1) := by decide +kernel
theorem dL_stop_13 : decode cL_stop 13 = .ok (.iconst 1, 1) := by decide +kernel
theorem dL_stop_14 : decode cL_stop 14 = .ok (.ireturn, 1) := by decide +kernel
theorem dL_stop_15 : decode cL_stop 15 = .ok (.iconst 0, 1) := by decide +kernel
theorem dL_stop_16 : decode cL_stop 16 = .ok (.ireturn, 1) := by decide +kernel
theorem dL_runsFrom_0 : decode cL_runsFrom 0 = .ok (.aload_n 2, 1) := by decide +kernel
theorem dL_runsFrom_1 : decode cL_runsFrom 1 = .ok (.iconst 0, 1) := by decide +kernel
theorem dL_runsFrom_2 : decode cL_runsFrom 2 = .ok (.aload_n 0, 1) := by decide +kernel
theorem dL_runsFrom_3 : decode cL_runsFrom 3 = .ok (.iload_n 1, 1) := by decide +kernel
theorem dL_runsFrom_4 : decode cL_runsFrom 4 = .ok (.invokevirtual 79, 3) := by decide +kernel
theorem dL_runsFrom_7 : decode cL_runsFrom 7 = .ok (.i2l, 1) := by decide +kernel
theorem dL_runsFrom_8 : decode cL_runsFrom 8 = .ok (.lastore, 1) := by decide +kernel
theorem dL_runsFrom_9 : decode cL_runsFrom 9 = .ok (.goto 6, 3) := by decide +kernel
theorem dL_runsFrom_12 : decode cL_runsFrom 12 = .ok (.astore_n 3, 1) := by decide +kernel
theorem dL_runsFrom_13 : decode cL_runsFrom 13 = .ok (.iconst 1, 1) := by decide +kernel
theorem dL_runsFrom_14 : decode cL_runsFrom 14 = .ok (.ireturn, 1) := by decide +kernel
theorem dL_runsFrom_15 : decode cL_runsFrom 15 = .ok (.iconst 0, 1) := by decide +kernel
theorem dL_runsFrom_16 : decode cL_runsFrom 16 = .ok (.ireturn, 1) := by decide +kernel
theorem dL_oldAt_0 : decode cL_oldAt 0 = .ok (.aload_n 2, 1) := by decide +kernel
theorem dL_oldAt_1 : decode cL_oldAt 1 = .ok (.iconst 0, 1) := by decide +kernel
theorem dL_oldAt_2 : decode cL_oldAt 2 = .ok (.aload_n 0, 1) := by decide +kernel
theorem dL_oldAt_3 : decode cL_oldAt 3 = .ok (.iload_n 1, 1) := by decide +kernel
theorem dL_oldAt_4 : decode cL_oldAt 4 = .ok (.invokevirtual 82, 3) := by decide +kernel
theorem dL_oldAt_7 : decode cL_oldAt 7 = .ok (.i2l, 1) := by decide +kernel
theorem dL_oldAt_8 : decode cL_oldAt 8 = .ok (.lastore, 1) := by decide +kernel
theorem dL_oldAt_9 : decode cL_oldAt 9 = .ok (.goto 6, 3) := by decide +kernel
theorem dL_oldAt_12 : decode cL_oldAt 12 = .ok (.astore_n 3, 1) := by decide +kernel
theorem dL_oldAt_13 : decode cL_oldAt 13 = .ok (.iconst 1, 1) := by decide +kernel
theorem dL_oldAt_14 : decode cL_oldAt 14 = .ok (.ireturn, 1) := by decide +kernel
theorem dL_oldAt_15 : decode cL_oldAt 15 = .ok (.iconst 0, 1) := by decide +kernel
theorem dL_oldAt_16 : decode cL_oldAt 16 = .ok (.ireturn, 1) := by decide +kernel
theorem dL_law_0 : decode cL_law 0 = .ok (.new 8, 3) := by decide +kernel
theorem dL_law_3 : decode cL_law 3 = .ok (.dup, 1) := by decide +kernel
theorem dL_law_4 : decode cL_law 4 = .ok (.invokespecial 85, 3) := by decide +kernel
theorem dL_law_7 : decode cL_law 7 = .ok (.astore_n 1, 1) := by decide +kernel
theorem dL_law_8 : decode cL_law 8 = .ok (.new 86, 3) := by decide +kernel
theorem dL_law_11 : decode cL_law 11 = .ok (.dup, 1) := by decide +kernel
theorem dL_law_12 : decode cL_law 12 = .ok (.invokespecial 88, 3) := by decide +kernel
theorem dL_law_15 : decode cL_law 15 = .ok (.astore_n 2, 1) := by decide +kernel
theorem dL_law_16 : decode cL_law 16 = .ok (.iconst 1, 1) := by decide +kernel
theorem dL_law_17 : decode cL_law 17 = .ok (.newarray .long, 2) := by decide +kernel
theorem dL_law_19 : decode cL_law 19 = .ok (.astore_n 3, 1) := by decide +kernel
theorem dL_law_20 : decode cL_law 20 = .ok (.iconst 0, 1) := by decide +kernel
theorem dL_law_21 : decode cL_law 21 = .ok (.istore 4, 2) := by decide +kernel
theorem dL_law_23 : decode cL_law 23 = .ok (.iload 4, 2) := by decide +kernel
theorem dL_law_25 : decode cL_law 25 = .ok (.aload_n 0, 1) := by decide +kernel
theorem dL_law_26 : decode cL_law 26 = .ok (.arraylength, 1) := by decide +kernel
theorem dL_law_27 : decode cL_law 27 = .ok (.iconst 5, 1) := by decide +kernel
theorem dL_law_28 : decode cL_law 28 = .ok (.isub, 1) := by decide +kernel
theorem dL_law_29 : decode cL_law 29 = .ok (.if_icmp .gt 1453, 3) := by decide +kernel
theorem dL_law_32 : decode cL_law 32 = .ok (.aload_n 0, 1) := by decide +kernel
theorem dL_law_33 : decode cL_law 33 = .ok (.iload 4, 2) := by decide +kernel
theorem dL_law_35 : decode cL_law 35 = .ok (.iaload, 1) := by decide +kernel
theorem dL_law_36 : decode cL_law 36 = .ok (.bipush 31, 2) := by decide +kernel
theorem dL_law_38 : decode cL_law 38 = .ok (.iand, 1) := by decide +kernel
theorem dL_law_39 : decode cL_law 39 = .ok (.tableswitch 1437 0 23 #[109, 165, 233, 301, 357, 401, 464, 527, 540, 553, 609, 665, 756, 812, 868, 936, 1008, 1064, 1120, 1200, 1256, 1312, 1368, 1381], 109) := by decide +kernel
theorem dL_law_148 : decode cL_law 148 = .ok (.aload_n 1, 1) := by decide +kernel
theorem dL_law_149 : decode cL_law 149 = .ok (.aload_n 0, 1) := by decide +kernel
theorem dL_law_150 : decode cL_law 150 = .ok (.iload 4, 2) := by decide +kernel
theorem dL_law_152 : decode cL_law 152 = .ok (.iconst 1, 1) := by decide +kernel
theorem dL_law_153 : decode cL_law 153 = .ok (.iadd, 1) := by decide +kernel
theorem dL_law_154 : decode cL_law 154 = .ok (.iaload, 1) := by decide +kernel
theorem dL_law_155 : decode cL_law 155 = .ok (.aload_n 3, 1) := by decide +kernel
theorem dL_law_156 : decode cL_law 156 = .ok (.invokestatic 89, 3) := by decide +kernel
theorem dL_law_159 : decode cL_law 159 = .ok (.istore 5, 2) := by decide +kernel
theorem dL_law_161 : decode cL_law 161 = .ok (.aload_n 2, 1) := by decide +kernel
theorem dL_law_162 : decode cL_law 162 = .ok (.aload_n 0, 1) := by decide +kernel
theorem dL_law_163 : decode cL_law 163 = .ok (.iload 4, 2) := by decide +kernel
theorem dL_law_165 : decode cL_law 165 = .ok (.iconst 1, 1) := by decide +kernel
theorem dL_law_166 : decode cL_law 166 = .ok (.iadd, 1) := by decide +kernel
theorem dL_law_167 : decode cL_law 167 = .ok (.iaload, 1) := by decide +kernel
theorem dL_law_168 : decode cL_law 168 = .ok (.invokevirtual 94, 3) := by decide +kernel
theorem dL_law_171 : decode cL_law 171 = .ok (.istore 6, 2) := by decide +kernel
theorem dL_law_173 : decode cL_law 173 = .ok (.aload_n 2, 1) := by decide +kernel
theorem dL_law_174 : decode cL_law 174 = .ok (.invokevirtual 95, 3) := by decide +kernel
theorem dL_law_177 : decode cL_law 177 = .ok (.iload 5, 2) := by decide +kernel
theorem dL_law_179 : decode cL_law 179 = .ok (.if_icmp .eq 5, 3) := by decide +kernel
theorem dL_law_182 : decode cL_law 182 = .ok (.iconst 0, 1) := by decide +kernel
theorem dL_law_183 : decode cL_law 183 = .ok (.ireturn, 1) := by decide +kernel
theorem dL_law_184 : decode cL_law 184 = .ok (.iload 5, 2) := by decide +kernel
theorem dL_law_186 : decode cL_law 186 = .ok (.ifCond .ne 15, 3) := by decide +kernel
theorem dL_law_189 : decode cL_law 189 = .ok (.aload_n 3, 1) := by decide +kernel
theorem dL_law_190 : decode cL_law 190 = .ok (.iconst 0, 1) := by decide +kernel
theorem dL_law_191 : decode cL_law 191 = .ok (.laload, 1) := by decide +kernel
theorem dL_law_192 : decode cL_law 192 = .ok (.iload 6, 2) := by decide +kernel
theorem dL_law_194 : decode cL_law 194 = .ok (.i2l, 1) := by decide +kernel
theorem dL_law_195 : decode cL_law 195 = .ok (.lcmp, 1) := by decide +kernel
theorem dL_law_196 : decode cL_law 196 = .ok (.ifCond .eq 5, 3) := by decide +kernel
theorem dL_law_199 : decode cL_law 199 = .ok (.iconst 0, 1) := by decide +kernel
theorem dL_law_200 : decode cL_law 200 = .ok (.ireturn, 1) := by decide +kernel
theorem dL_law_201 : decode cL_law 201 = .ok (.goto 1275, 3) := by decide +kernel
theorem dL_law_204 : decode cL_law 204 = .ok (.aload_n 1, 1) := by decide +kernel
theorem dL_law_205 : decode cL_law 205 = .ok (.aload_n 0, 1) := by decide +kernel
theorem dL_law_206 : decode cL_law 206 = .ok (.iload 4, 2) := by decide +kernel
theorem dL_law_208 : decode cL_law 208 = .ok (.iconst 1, 1) := by decide +kernel
theorem dL_law_209 : decode cL_law 209 = .ok (.iadd, 1) := by decide +kernel
theorem dL_law_210 : decode cL_law 210 = .ok (.iaload, 1) := by decide +kernel
theorem dL_law_211 : decode cL_law 211 = .ok (.aload_n 0, 1) := by decide +kernel
theorem dL_law_212 : decode cL_law 212 = .ok (.iload 4, 2) := by decide +kernel
theorem dL_law_214 : decode cL_law 214 = .ok (.iconst 2, 1) := by decide +kernel
theorem dL_law_215 : decode cL_law 215 = .ok (.iadd, 1) := by decide +kernel
theorem dL_law_216 : decode cL_law 216 = .ok (.iaload, 1) := by decide +kernel
theorem dL_law_217 : decode cL_law 217 = .ok (.aload_n 3, 1) := by decide +kernel
theorem dL_law_218 : decode cL_law 218 = .ok (.invokestatic 98, 3) := by decide +kernel
theorem dL_law_221 : decode cL_law 221 = .ok (.istore 5, 2) := by decide +kernel
theorem dL_law_223 : decode cL_law 223 = .ok (.aload_n 2, 1) := by decide +kernel
theorem dL_law_224 : decode cL_law 224 = .ok (.aload_n 0, 1) := by decide +kernel
theorem dL_law_225 : decode cL_law 225 = .ok (.iload 4, 2) := by decide +kernel
theorem dL_law_227 : decode cL_law 227 = .ok (.iconst 1, 1) := by decide +kernel
theorem dL_law_228 : decode cL_law 228 = .ok (.iadd, 1) := by decide +kernel
theorem dL_law_229 : decode cL_law 229 = .ok (.iaload, 1) := by decide +kernel
theorem dL_law_230 : decode cL_law 230 = .ok (.aload_n 0, 1) := by decide +kernel
theorem dL_law_231 : decode cL_law 231 = .ok (.iload 4, 2) := by decide +kernel
theorem dL_law_233 : decode cL_law 233 = .ok (.iconst 2, 1) := by decide +kernel
theorem dL_law_234 : decode cL_law 234 = .ok (.iadd, 1) := by decide +kernel
theorem dL_law_235 : decode cL_law 235 = .ok (.iaload, 1) := by decide +kernel
theorem dL_law_236 : decode cL_law 236 = .ok (.invokevirtual 101, 3) := by decide +kernel
theorem dL_law_239 : decode cL_law 239 = .ok (.istore 6, 2) := by decide +kernel
theorem dL_law_241 : decode cL_law 241 = .ok (.aload_n 2, 1) := by decide +kernel
theorem dL_law_242 : decode cL_law 242 = .ok (.invokevirtual 95, 3) := by decide +kernel
theorem dL_law_245 : decode cL_law 245 = .ok (.iload 5, 2) := by decide +kernel
theorem dL_law_247 : decode cL_law 247 = .ok (.if_icmp .eq 5, 3) := by decide +kernel
theorem dL_law_250 : decode cL_law 250 = .ok (.iconst 0, 1) := by decide +kernel
theorem dL_law_251 : decode cL_law 251 = .ok (.ireturn, 1) := by decide +kernel
theorem dL_law_252 : decode cL_law 252 = .ok (.iload 5, 2) := by decide +kernel
theorem dL_law_254 : decode cL_law 254 = .ok (.ifCond .ne 15, 3) := by decide +kernel
theorem dL_law_257 : decode cL_law 257 = .ok (.aload_n 3, 1) := by decide +kernel
theorem dL_law_258 : decode cL_law 258 = .ok (.iconst 0, 1) := by decide +kernel
theorem dL_law_259 : decode cL_law 259 = .ok (.laload, 1) := by decide +kernel
theorem dL_law_260 : decode cL_law 260 = .ok (.iload 6, 2) := by decide +kernel
theorem dL_law_262 : decode cL_law 262 = .ok (.i2l, 1) := by decide +kernel
theorem dL_law_263 : decode cL_law 263 = .ok (.lcmp, 1) := by decide +kernel
theorem dL_law_264 : decode cL_law 264 = .ok (.ifCond .eq 5, 3) := by decide +kernel
theorem dL_law_267 : decode cL_law 267 = .ok (.iconst 0, 1) := by decide +kernel
theorem dL_law_268 : decode cL_law 268 = .ok (.ireturn, 1) := by decide +kernel
theorem dL_law_269 : decode cL_law 269 = .ok (.goto 1207, 3) := by decide +kernel
theorem dL_law_272 : decode cL_law 272 = .ok (.aload_n 1, 1) := by decide +kernel
theorem dL_law_273 : decode cL_law 273 = .ok (.aload_n 0, 1) := by decide +kernel
theorem dL_law_274 : decode cL_law 274 = .ok (.iload 4, 2) := by decide +kernel
theorem dL_law_276 : decode cL_law 276 = .ok (.iconst 1, 1) := by decide +kernel
theorem dL_law_277 : decode cL_law 277 = .ok (.iadd, 1) := by decide +kernel
theorem dL_law_278 : decode cL_law 278 = .ok (.iaload, 1) := by decide +kernel
theorem dL_law_279 : decode cL_law 279 = .ok (.aload_n 0, 1) := by decide +kernel
theorem dL_law_280 : decode cL_law 280 = .ok (.iload 4, 2) := by decide +kernel
theorem dL_law_282 : decode cL_law 282 = .ok (.iconst 2, 1) := by decide +kernel
theorem dL_law_283 : decode cL_law 283 = .ok (.iadd, 1) := by decide +kernel
theorem dL_law_284 : decode cL_law 284 = .ok (.iaload, 1) := by decide +kernel
theorem dL_law_285 : decode cL_law 285 = .ok (.aload_n 3, 1) := by decide +kernel
theorem dL_law_286 : decode cL_law 286 = .ok (.invokestatic 102, 3) := by decide +kernel
theorem dL_law_289 : decode cL_law 289 = .ok (.istore 5, 2) := by decide +kernel
theorem dL_law_291 : decode cL_law 291 = .ok (.aload_n 2, 1) := by decide +kernel
theorem dL_law_292 : decode cL_law 292 = .ok (.aload_n 0, 1) := by decide +kernel
theorem dL_law_293 : decode cL_law 293 = .ok (.iload 4, 2) := by decide +kernel
theorem dL_law_295 : decode cL_law 295 = .ok (.iconst 1, 1) := by decide +kernel
theorem dL_law_296 : decode cL_law 296 = .ok (.iadd, 1) := by decide +kernel
theorem dL_law_297 : decode cL_law 297 = .ok (.iaload, 1) := by decide +kernel
theorem dL_law_298 : decode cL_law 298 = .ok (.aload_n 0, 1) := by decide +kernel
theorem dL_law_299 : decode cL_law 299 = .ok (.iload 4, 2) := by decide +kernel
theorem dL_law_301 : decode cL_law 301 = .ok (.iconst 2, 1) := by decide +kernel
theorem dL_law_302 : decode cL_law 302 = .ok (.iadd, 1) := by decide +kernel
theorem dL_law_303 : decode cL_law 303 = .ok (.iaload, 1) := by decide +kernel
theorem dL_law_304 : decode cL_law 304 = .ok (.invokevirtual 104, 3) := by decide +kernel
theorem dL_law_307 : decode cL_law 307 = .ok (.istore 6, 2) := by decide +kernel
theorem dL_law_309 : decode cL_law 309 = .ok (.aload_n 2, 1) := by decide +kernel
theorem dL_law_310 : decode cL_law 310 = .ok (.invokevirtual 95, 3) := by decide +kernel
theorem dL_law_313 : decode cL_law 313 = .ok (.iload 5, 2) := by decide +kernel
theorem dL_law_315 : decode cL_law 315 = .ok (.if_icmp .eq 5, 3) := by decide +kernel
theorem dL_law_318 : decode cL_law 318 = .ok (.iconst 0, 1) := by decide +kernel
theorem dL_law_319 : decode cL_law 319 = .ok (.ireturn, 1) := by decide +kernel
theorem dL_law_320 : decode cL_law 320 = .ok (.iload 5, 2) := by decide +kernel
theorem dL_law_322 : decode cL_law 322 = .ok (.ifCond .ne 15, 3) := by decide +kernel
theorem dL_law_325 : decode cL_law 325 = .ok (.aload_n 3, 1) := by decide +kernel
theorem dL_law_326 : decode cL_law 326 = .ok (.iconst 0, 1) := by decide +kernel
theorem dL_law_327 : decode cL_law 327 = .ok (.laload, 1) := by decide +kernel
theorem dL_law_328 : decode cL_law 328 = .ok (.iload 6, 2) := by decide +kernel
theorem dL_law_330 : decode cL_law 330 = .ok (.i2l, 1) := by decide +kernel
theorem dL_law_331 : decode cL_law 331 = .ok (.lcmp, 1) := by decide +kernel
theorem dL_law_332 : decode cL_law 332 = .ok (.ifCond .eq 5, 3) := by decide +kernel
theorem dL_law_335 : decode cL_law 335 = .ok (.iconst 0, 1) := by decide +kernel
theorem dL_law_336 : decode cL_law 336 = .ok (.ireturn, 1) := by decide +kernel
theorem dL_law_337 : decode cL_law 337 = .ok (.goto 1139, 3) := by decide +kernel
theorem dL_law_340 : decode cL_law 340 = .ok (.aload_n 1, 1) := by decide +kernel
theorem dL_law_341 : decode cL_law 341 = .ok (.aload_n 0, 1) := by decide +kernel
theorem dL_law_342 : decode cL_law 342 = .ok (.iload 4, 2) := by decide +kernel
theorem dL_law_344 : decode cL_law 344 = .ok (.iconst 1, 1) := by decide +kernel
theorem dL_law_345 : decode cL_law 345 = .ok (.iadd, 1) := by decide +kernel
theorem dL_law_346 : decode cL_law 346 = .ok (.iaload, 1) := by decide +kernel
theorem dL_law_347 : decode cL_law 347 = .ok (.aload_n 3, 1) := by decide +kernel
theorem dL_law_348 : decode cL_law 348 = .ok (.invokestatic 105, 3) := by decide +kernel
theorem dL_law_351 : decode cL_law 351 = .ok (.istore 5, 2) := by decide +kernel
theorem dL_law_353 : decode cL_law 353 = .ok (.aload_n 2, 1) := by decide +kernel
theorem dL_law_354 : decode cL_law 354 = .ok (.aload_n 0, 1) := by decide +kernel
theorem dL_law_355 : decode cL_law 355 = .ok (.iload 4, 2) := by decide +kernel
theorem dL_law_357 : decode cL_law 357 = .ok (.iconst 1, 1) := by decide +kernel
theorem dL_law_358 : decode cL_law 358 = .ok (.iadd, 1) := by decide +kernel
theorem dL_law_359 : decode cL_law 359 = .ok (.iaload, 1) := by decide +kernel
theorem dL_law_360 : decode cL_law 360 = .ok (.invokevirtual 107, 3) := by decide +kernel
theorem dL_law_363 : decode cL_law 363 = .ok (.istore 6, 2) := by decide +kernel
theorem dL_law_365 : decode cL_law 365 = .ok (.aload_n 2, 1) := by decide +kernel
theorem dL_law_366 : decode cL_law 366 = .ok (.invokevirtual 95, 3) := by decide +kernel
theorem dL_law_369 : decode cL_law 369 = .ok (.iload 5, 2) := by decide +kernel
theorem dL_law_371 : decode cL_law 371 = .ok (.if_icmp .eq 5, 3) := by decide +kernel
theorem dL_law_374 : decode cL_law 374 = .ok (.iconst 0, 1) := by decide +kernel
theorem dL_law_375 : decode cL_law 375 = .ok (.ireturn, 1) := by decide +kernel
theorem dL_law_376 : decode cL_law 376 = .ok (.iload 5, 2) := by decide +kernel
theorem dL_law_378 : decode cL_law 378 = .ok (.ifCond .ne 15, 3) := by decide +kernel
theorem dL_law_381 : decode cL_law 381 = .ok (.aload_n 3, 1) := by decide +kernel
theorem dL_law_382 : decode cL_law 382 = .ok (.iconst 0, 1) := by decide +kernel
theorem dL_law_383 : decode cL_law 383 = .ok (.laload, 1) := by decide +kernel
theorem dL_law_384 : decode cL_law 384 = .ok (.iload 6, 2) := by decide +kernel
theorem dL_law_386 : decode cL_law 386 = .ok (.i2l, 1) := by decide +kernel
theorem dL_law_387 : decode cL_law 387 = .ok (.lcmp, 1) := by decide +kernel
theorem dL_law_388 : decode cL_law 388 = .ok (.ifCond .eq 5, 3) := by decide +kernel
theorem dL_law_391 : decode cL_law 391 = .ok (.iconst 0, 1) := by decide +kernel
theorem dL_law_392 : decode cL_law 392 = .ok (.ireturn, 1) := by decide +kernel
theorem dL_law_393 : decode cL_law 393 = .ok (.goto 1083, 3) := by decide +kernel
theorem dL_law_396 : decode cL_law 396 = .ok (.aload_n 1, 1) := by decide +kernel
theorem dL_law_397 : decode cL_law 397 = .ok (.aload_n 3, 1) := by decide +kernel
theorem dL_law_398 : decode cL_law 398 = .ok (.invokestatic 108, 3) := by decide +kernel
theorem dL_law_401 : decode cL_law 401 = .ok (.istore 5, 2) := by decide +kernel
theorem dL_law_403 : decode cL_law 403 = .ok (.aload_n 2, 1) := by decide +kernel
theorem dL_law_404 : decode cL_law 404 = .ok (.invokevirtual 111, 3) := by decide +kernel
theorem dL_law_407 : decode cL_law 407 = .ok (.istore 6, 2) := by decide +kernel
theorem dL_law_409 : decode cL_law 409 = .ok (.aload_n 2, 1) := by decide +kernel
theorem dL_law_410 : decode cL_law 410 = .ok (.invokevirtual 95, 3) := by decide +kernel
theorem dL_law_413 : decode cL_law 413 = .ok (.iload 5, 2) := by decide +kernel
theorem dL_law_415 : decode cL_law 415 = .ok (.if_icmp .eq 5, 3) := by decide +kernel
theorem dL_law_418 : decode cL_law 418 = .ok (.iconst 0, 1) := by decide +kernel
theorem dL_law_419 : decode cL_law 419 = .ok (.ireturn, 1) := by decide +kernel
theorem dL_law_420 : decode cL_law 420 = .ok (.iload 5, 2) := by decide +kernel
theorem dL_law_422 : decode cL_law 422 = .ok (.ifCond .ne 15, 3) := by decide +kernel
theorem dL_law_425 : decode cL_law 425 = .ok (.aload_n 3, 1) := by decide +kernel
theorem dL_law_426 : decode cL_law 426 = .ok (.iconst 0, 1) := by decide +kernel
theorem dL_law_427 : decode cL_law 427 = .ok (.laload, 1) := by decide +kernel
theorem dL_law_428 : decode cL_law 428 = .ok (.iload 6, 2) := by decide +kernel
theorem dL_law_430 : decode cL_law 430 = .ok (.i2l, 1) := by decide +kernel
theorem dL_law_431 : decode cL_law 431 = .ok (.lcmp, 1) := by decide +kernel
theorem dL_law_432 : decode cL_law 432 = .ok (.ifCond .eq 5, 3) := by decide +kernel
theorem dL_law_435 : decode cL_law 435 = .ok (.iconst 0, 1) := by decide +kernel
theorem dL_law_436 : decode cL_law 436 = .ok (.ireturn, 1) := by decide +kernel
theorem dL_law_437 : decode cL_law 437 = .ok (.goto 1039, 3) := by decide +kernel
theorem dL_law_440 : decode cL_law 440 = .ok (.aload_n 1, 1) := by decide +kernel
theorem dL_law_441 : decode cL_law 441 = .ok (.aload_n 0, 1) := by decide +kernel
theorem dL_law_442 : decode cL_law 442 = .ok (.iload 4, 2) := by decide +kernel
theorem dL_law_444 : decode cL_law 444 = .ok (.iconst 1, 1) := by decide +kernel
theorem dL_law_445 : decode cL_law 445 = .ok (.iadd, 1) := by decide +kernel
theorem dL_law_446 : decode cL_law 446 = .ok (.iaload, 1) := by decide +kernel
theorem dL_law_447 : decode cL_law 447 = .ok (.aload_n 3, 1) := by decide +kernel
theorem dL_law_448 : decode cL_law 448 = .ok (.invokestatic 112, 3) := by decide +kernel
theorem dL_law_451 : decode cL_law 451 = .ok (.istore 5, 2) := by decide +kernel
theorem dL_law_453 : decode cL_law 453 = .ok (.aload_n 2, 1) := by decide +kernel
theorem dL_law_454 : decode cL_law 454 = .ok (.aload_n 0, 1) := by decide +kernel
theorem dL_law_455 : decode cL_law 455 = .ok (.iload 4, 2) := by decide +kernel
theorem dL_law_457 : decode cL_law 457 = .ok (.iconst 1, 1) := by decide +kernel
theorem dL_law_458 : decode cL_law 458 = .ok (.iadd, 1) := by decide +kernel
theorem dL_law_459 : decode cL_law 459 = .ok (.iaload, 1) := by decide +kernel
theorem dL_law_460 : decode cL_law 460 = .ok (.invokevirtual 114, 3) := by decide +kernel
theorem dL_law_463 : decode cL_law 463 = .ok (.istore 6, 2) := by decide +kernel
theorem dL_law_465 : decode cL_law 465 = .ok (.aload_n 2, 1) := by decide +kernel
theorem dL_law_466 : decode cL_law 466 = .ok (.invokevirtual 95, 3) := by decide +kernel
theorem dL_law_469 : decode cL_law 469 = .ok (.iload 5, 2) := by decide +kernel
theorem dL_law_471 : decode cL_law 471 = .ok (.if_icmp .eq 5, 3) := by decide +kernel
theorem dL_law_474 : decode cL_law 474 = .ok (.iconst 0, 1) := by decide +kernel
theorem dL_law_475 : decode cL_law 475 = .ok (.ireturn, 1) := by decide +kernel
theorem dL_law_476 : decode cL_law 476 = .ok (.iload 5, 2) := by decide +kernel
theorem dL_law_478 : decode cL_law 478 = .ok (.ifCond .ne 22, 3) := by decide +kernel
theorem dL_law_481 : decode cL_law 481 = .ok (.aload_n 3, 1) := by decide +kernel
theorem dL_law_482 : decode cL_law 482 = .ok (.iconst 0, 1) := by decide +kernel
theorem dL_law_483 : decode cL_law 483 = .ok (.laload, 1) := by decide +kernel
theorem dL_law_484 : decode cL_law 484 = .ok (.iload 6, 2) := by decide +kernel
theorem dL_law_486 : decode cL_law 486 = .ok (.ifCond .eq 7, 3) := by decide +kernel
theorem dL_law_489 : decode cL_law 489 = .ok (.lconst 1, 1) := by decide +kernel
theorem dL_law_490 : decode cL_law 490 = .ok (.goto 4, 3) := by decide +kernel
theorem dL_law_493 : decode cL_law 493 = .ok (.lconst 0, 1) := by decide +kernel
theorem dL_law_494 : decode cL_law 494 = .ok (.lcmp, 1) := by decide +kernel
theorem dL_law_495 : decode cL_law 495 = .ok (.ifCond .eq 5, 3) := by decide +kernel
theorem dL_law_498 : decode cL_law 498 = .ok (.iconst 0, 1) := by decide +kernel
theorem dL_law_499 : decode cL_law 499 = .ok (.ireturn, 1) := by decide +kernel
theorem dL_law_500 : decode cL_law 500 = .ok (.goto 976, 3) := by decide +kernel
theorem dL_law_503 : decode cL_law 503 = .ok (.aload_n 1, 1) := by decide +kernel
theorem dL_law_504 : decode cL_law 504 = .ok (.aload_n 0, 1) := by decide +kernel
theorem dL_law_505 : decode cL_law 505 = .ok (.iload 4, 2) := by decide +kernel
theorem dL_law_507 : decode cL_law 507 = .ok (.iconst 1, 1) := by decide +kernel
theorem dL_law_508 : decode cL_law 508 = .ok (.iadd, 1) := by decide +kernel
theorem dL_law_509 : decode cL_law 509 = .ok (.iaload, 1) := by decide +kernel
theorem dL_law_510 : decode cL_law 510 = .ok (.aload_n 3, 1) := by decide +kernel
theorem dL_law_511 : decode cL_law 511 = .ok (.invokestatic 115, 3) := by decide +kernel
theorem dL_law_514 : decode cL_law 514 = .ok (.istore 5, 2) := by decide +kernel
theorem dL_law_516 : decode cL_law 516 = .ok (.aload_n 2, 1) := by decide +kernel
theorem dL_law_517 : decode cL_law 517 = .ok (.aload_n 0, 1) := by decide +kernel
theorem dL_law_518 : decode cL_law 518 = .ok (.iload 4, 2) := by decide +kernel
theorem dL_law_520 : decode cL_law 520 = .ok (.iconst 1, 1) := by decide +kernel
theorem dL_law_521 : decode cL_law 521 = .ok (.iadd, 1) := by decide +kernel
theorem dL_law_522 : decode cL_law 522 = .ok (.iaload, 1) := by decide +kernel
theorem dL_law_523 : decode cL_law 523 = .ok (.invokevirtual 117, 3) := by decide +kernel
theorem dL_law_526 : decode cL_law 526 = .ok (.istore 6, 2) := by decide +kernel
theorem dL_law_528 : decode cL_law 528 = .ok (.aload_n 2, 1) := by decide +kernel
theorem dL_law_529 : decode cL_law 529 = .ok (.invokevirtual 95, 3) := by decide +kernel
theorem dL_law_532 : decode cL_law 532 = .ok (.iload 5, 2) := by decide +kernel
theorem dL_law_534 : decode cL_law 534 = .ok (.if_icmp .eq 5, 3) := by decide +kernel
theorem dL_law_537 : decode cL_law 537 = .ok (.iconst 0, 1) := by decide +kernel
theorem dL_law_538 : decode cL_law 538 = .ok (.ireturn, 1) := by decide +kernel
theorem dL_law_539 : decode cL_law 539 = .ok (.iload 5, 2) := by decide +kernel
theorem dL_law_541 : decode cL_law 541 = .ok (.ifCond .ne 22, 3) := by decide +kernel
theorem dL_law_544 : decode cL_law 544 = .ok (.aload_n 3, 1) := by decide +kernel
theorem dL_law_545 : decode cL_law 545 = .ok (.iconst 0, 1) := by decide +kernel
theorem dL_law_546 : decode cL_law 546 = .ok (.laload, 1) := by decide +kernel
theorem dL_law_547 : decode cL_law 547 = .ok (.iload 6, 2) := by decide +kernel
theorem dL_law_549 : decode cL_law 549 = .ok (.ifCond .eq 7, 3) := by decide +kernel
theorem dL_law_552 : decode cL_law 552 = .ok (.lconst 1, 1) := by decide +kernel
theorem dL_law_553 : decode cL_law 553 = .ok (.goto 4, 3) := by decide +kernel
theorem dL_law_556 : decode cL_law 556 = .ok (.lconst 0, 1) := by decide +kernel
theorem dL_law_557 : decode cL_law 557 = .ok (.lcmp, 1) := by decide +kernel
theorem dL_law_558 : decode cL_law 558 = .ok (.ifCond .eq 5, 3) := by decide +kernel
theorem dL_law_561 : decode cL_law 561 = .ok (.iconst 0, 1) := by decide +kernel
theorem dL_law_562 : decode cL_law 562 = .ok (.ireturn, 1) := by decide +kernel
theorem dL_law_563 : decode cL_law 563 = .ok (.goto 913, 3) := by decide +kernel
theorem dL_law_566 : decode cL_law 566 = .ok (.aload_n 1, 1) := by decide +kernel
theorem dL_law_567 : decode cL_law 567 = .ok (.invokevirtual 118, 3) := by decide +kernel
theorem dL_law_570 : decode cL_law 570 = .ok (.aload_n 2, 1) := by decide +kernel
theorem dL_law_571 : decode cL_law 571 = .ok (.invokevirtual 121, 3) := by decide +kernel
theorem dL_law_574 : decode cL_law 574 = .ok (.if_icmp .eq 902, 3) := by decide +kernel
theorem dL_law_577 : decode cL_law 577 = .ok (.iconst 0, 1) := by decide +kernel
theorem dL_law_578 : decode cL_law 578 = .ok (.ireturn, 1) := by decide +kernel
theorem dL_law_579 : decode cL_law 579 = .ok (.aload_n 1, 1) := by decide +kernel
theorem dL_law_580 : decode cL_law 580 = .ok (.invokevirtual 122, 3) := by decide +kernel
theorem dL_law_583 : decode cL_law 583 = .ok (.aload_n 2, 1) := by decide +kernel
theorem dL_law_584 : decode cL_law 584 = .ok (.invokevirtual 125, 3) := by decide +kernel
theorem dL_law_587 : decode cL_law 587 = .ok (.if_icmp .eq 889, 3) := by decide +kernel
theorem dL_law_590 : decode cL_law 590 = .ok (.iconst 0, 1) := by decide +kernel
theorem dL_law_591 : decode cL_law 591 = .ok (.ireturn, 1) := by decide +kernel
theorem dL_law_592 : decode cL_law 592 = .ok (.aload_n 1, 1) := by decide +kernel
theorem dL_law_593 : decode cL_law 593 = .ok (.aload_n 0, 1) := by decide +kernel
theorem dL_law_594 : decode cL_law 594 = .ok (.iload 4, 2) := by decide +kernel
theorem dL_law_596 : decode cL_law 596 = .ok (.iconst 1, 1) := by decide +kernel
theorem dL_law_597 : decode cL_law 597 = .ok (.iadd, 1) := by decide +kernel
theorem dL_law_598 : decode cL_law 598 = .ok (.iaload, 1) := by decide +kernel
theorem dL_law_599 : decode cL_law 599 = .ok (.aload_n 3, 1) := by decide +kernel
theorem dL_law_600 : decode cL_law 600 = .ok (.invokestatic 126, 3) := by decide +kernel
theorem dL_law_603 : decode cL_law 603 = .ok (.istore 5, 2) := by decide +kernel
theorem dL_law_605 : decode cL_law 605 = .ok (.aload_n 2, 1) := by decide +kernel
theorem dL_law_606 : decode cL_law 606 = .ok (.aload_n 0, 1) := by decide +kernel
theorem dL_law_607 : decode cL_law 607 = .ok (.iload 4, 2) := by decide +kernel
theorem dL_law_609 : decode cL_law 609 = .ok (.iconst 1, 1) := by decide +kernel
theorem dL_law_610 : decode cL_law 610 = .ok (.iadd, 1) := by decide +kernel
theorem dL_law_611 : decode cL_law 611 = .ok (.iaload, 1) := by decide +kernel
theorem dL_law_612 : decode cL_law 612 = .ok (.invokevirtual 128, 3) := by decide +kernel
theorem dL_law_615 : decode cL_law 615 = .ok (.istore 6, 2) := by decide +kernel
theorem dL_law_617 : decode cL_law 617 = .ok (.aload_n 2, 1) := by decide +kernel
theorem dL_law_618 : decode cL_law 618 = .ok (.invokevirtual 95, 3) := by decide +kernel
theorem dL_law_621 : decode cL_law 621 = .ok (.iload 5, 2) := by decide +kernel
theorem dL_law_623 : decode cL_law 623 = .ok (.if_icmp .eq 5, 3) := by decide +kernel
theorem dL_law_626 : decode cL_law 626 = .ok (.iconst 0, 1) := by decide +kernel
theorem dL_law_627 : decode cL_law 627 = .ok (.ireturn, 1) := by decide +kernel
theorem dL_law_628 : decode cL_law 628 = .ok (.iload 5, 2) := by decide +kernel
theorem dL_law_630 : decode cL_law 630 = .ok (.ifCond .ne 15, 3) := by decide +kernel
theorem dL_law_633 : decode cL_law 633 = .ok (.aload_n 3, 1) := by decide +kernel
theorem dL_law_634 : decode cL_law 634 = .ok (.iconst 0, 1) := by decide +kernel
theorem dL_law_635 : decode cL_law 635 = .ok (.laload, 1) := by decide +kernel
theorem dL_law_636 : decode cL_law 636 = .ok (.iload 6, 2) := by decide +kernel
theorem dL_law_638 : decode cL_law 638 = .ok (.i2l, 1) := by decide +kernel
theorem dL_law_639 : decode cL_law 639 = .ok (.lcmp, 1) := by decide +kernel
theorem dL_law_640 : decode cL_law 640 = .ok (.ifCond .eq 5, 3) := by decide +kernel
theorem dL_law_643 : decode cL_law 643 = .ok (.iconst 0, 1) := by decide +kernel
theorem dL_law_644 : decode cL_law 644 = .ok (.ireturn, 1) := by decide +kernel
theorem dL_law_645 : decode cL_law 645 = .ok (.goto 831, 3) := by decide +kernel
theorem dL_law_648 : decode cL_law 648 = .ok (.aload_n 1, 1) := by decide +kernel
theorem dL_law_649 : decode cL_law 649 = .ok (.aload_n 0, 1) := by decide +kernel
theorem dL_law_650 : decode cL_law 650 = .ok (.iload 4, 2) := by decide +kernel
theorem dL_law_652 : decode cL_law 652 = .ok (.iconst 1, 1) := by decide +kernel
theorem dL_law_653 : decode cL_law 653 = .ok (.iadd, 1) := by decide +kernel
theorem dL_law_654 : decode cL_law 654 = .ok (.iaload, 1) := by decide +kernel
theorem dL_law_655 : decode cL_law 655 = .ok (.aload_n 3, 1) := by decide +kernel
theorem dL_law_656 : decode cL_law 656 = .ok (.invokestatic 129, 3) := by decide +kernel
theorem dL_law_659 : decode cL_law 659 = .ok (.istore 5, 2) := by decide +kernel
theorem dL_law_661 : decode cL_law 661 = .ok (.aload_n 2, 1) := by decide +kernel
theorem dL_law_662 : decode cL_law 662 = .ok (.aload_n 0, 1) := by decide +kernel
theorem dL_law_663 : decode cL_law 663 = .ok (.iload 4, 2) := by decide +kernel
theorem dL_law_665 : decode cL_law 665 = .ok (.iconst 1, 1) := by decide +kernel
theorem dL_law_666 : decode cL_law 666 = .ok (.iadd, 1) := by decide +kernel
theorem dL_law_667 : decode cL_law 667 = .ok (.iaload, 1) := by decide +kernel
theorem dL_law_668 : decode cL_law 668 = .ok (.invokevirtual 131, 3) := by decide +kernel
theorem dL_law_671 : decode cL_law 671 = .ok (.istore 6, 2) := by decide +kernel
theorem dL_law_673 : decode cL_law 673 = .ok (.aload_n 2, 1) := by decide +kernel
theorem dL_law_674 : decode cL_law 674 = .ok (.invokevirtual 95, 3) := by decide +kernel
theorem dL_law_677 : decode cL_law 677 = .ok (.iload 5, 2) := by decide +kernel
theorem dL_law_679 : decode cL_law 679 = .ok (.if_icmp .eq 5, 3) := by decide +kernel
theorem dL_law_682 : decode cL_law 682 = .ok (.iconst 0, 1) := by decide +kernel
theorem dL_law_683 : decode cL_law 683 = .ok (.ireturn, 1) := by decide +kernel
theorem dL_law_684 : decode cL_law 684 = .ok (.iload 5, 2) := by decide +kernel
theorem dL_law_686 : decode cL_law 686 = .ok (.ifCond .ne 15, 3) := by decide +kernel
theorem dL_law_689 : decode cL_law 689 = .ok (.aload_n 3, 1) := by decide +kernel
theorem dL_law_690 : decode cL_law 690 = .ok (.iconst 0, 1) := by decide +kernel
theorem dL_law_691 : decode cL_law 691 = .ok (.laload, 1) := by decide +kernel
theorem dL_law_692 : decode cL_law 692 = .ok (.iload 6, 2) := by decide +kernel
theorem dL_law_694 : decode cL_law 694 = .ok (.i2l, 1) := by decide +kernel
theorem dL_law_695 : decode cL_law 695 = .ok (.lcmp, 1) := by decide +kernel
theorem dL_law_696 : decode cL_law 696 = .ok (.ifCond .eq 5, 3) := by decide +kernel
theorem dL_law_699 : decode cL_law 699 = .ok (.iconst 0, 1) := by decide +kernel
theorem dL_law_700 : decode cL_law 700 = .ok (.ireturn, 1) := by decide +kernel
theorem dL_law_701 : decode cL_law 701 = .ok (.goto 775, 3) := by decide +kernel
theorem dL_law_704 : decode cL_law 704 = .ok (.aload_n 1, 1) := by decide +kernel
theorem dL_law_705 : decode cL_law 705 = .ok (.aload_n 0, 1) := by decide +kernel
theorem dL_law_706 : decode cL_law 706 = .ok (.iload 4, 2) := by decide +kernel
theorem dL_law_708 : decode cL_law 708 = .ok (.iconst 1, 1) := by decide +kernel
theorem dL_law_709 : decode cL_law 709 = .ok (.iadd, 1) := by decide +kernel
theorem dL_law_710 : decode cL_law 710 = .ok (.iaload, 1) := by decide +kernel
theorem dL_law_711 : decode cL_law 711 = .ok (.aload_n 0, 1) := by decide +kernel
theorem dL_law_712 : decode cL_law 712 = .ok (.iload 4, 2) := by decide +kernel
theorem dL_law_714 : decode cL_law 714 = .ok (.iconst 2, 1) := by decide +kernel
theorem dL_law_715 : decode cL_law 715 = .ok (.iadd, 1) := by decide +kernel
theorem dL_law_716 : decode cL_law 716 = .ok (.iaload, 1) := by decide +kernel
theorem dL_law_717 : decode cL_law 717 = .ok (.ifCond .eq 7, 3) := by decide +kernel
theorem dL_law_720 : decode cL_law 720 = .ok (.iconst 1, 1) := by decide +kernel
theorem dL_law_721 : decode cL_law 721 = .ok (.goto 4, 3) := by decide +kernel
theorem dL_law_724 : decode cL_law 724 = .ok (.iconst 0, 1) := by decide +kernel
theorem dL_law_725 : decode cL_law 725 = .ok (.aload_n 3, 1) := by decide +kernel
theorem dL_law_726 : decode cL_law 726 = .ok (.invokestatic 132, 3) := by decide +kernel
theorem dL_law_729 : decode cL_law 729 = .ok (.istore 5, 2) := by decide +kernel
theorem dL_law_731 : decode cL_law 731 = .ok (.aload_n 2, 1) := by decide +kernel
theorem dL_law_732 : decode cL_law 732 = .ok (.aload_n 0, 1) := by decide +kernel
theorem dL_law_733 : decode cL_law 733 = .ok (.iload 4, 2) := by decide +kernel
theorem dL_law_735 : decode cL_law 735 = .ok (.iconst 1, 1) := by decide +kernel
theorem dL_law_736 : decode cL_law 736 = .ok (.iadd, 1) := by decide +kernel
theorem dL_law_737 : decode cL_law 737 = .ok (.iaload, 1) := by decide +kernel
theorem dL_law_738 : decode cL_law 738 = .ok (.aload_n 0, 1) := by decide +kernel
theorem dL_law_739 : decode cL_law 739 = .ok (.iload 4, 2) := by decide +kernel
theorem dL_law_741 : decode cL_law 741 = .ok (.iconst 2, 1) := by decide +kernel
theorem dL_law_742 : decode cL_law 742 = .ok (.iadd, 1) := by decide +kernel
theorem dL_law_743 : decode cL_law 743 = .ok (.iaload, 1) := by decide +kernel
theorem dL_law_744 : decode cL_law 744 = .ok (.ifCond .eq 7, 3) := by decide +kernel
theorem dL_law_747 : decode cL_law 747 = .ok (.iconst 1, 1) := by decide +kernel
theorem dL_law_748 : decode cL_law 748 = .ok (.goto 4, 3) := by decide +kernel
theorem dL_law_751 : decode cL_law 751 = .ok (.iconst 0, 1) := by decide +kernel
theorem dL_law_752 : decode cL_law 752 = .ok (.invokevirtual 135, 3) := by decide +kernel
theorem dL_law_755 : decode cL_law 755 = .ok (.istore 6, 2) := by decide +kernel
theorem dL_law_757 : decode cL_law 757 = .ok (.aload_n 2, 1) := by decide +kernel
theorem dL_law_758 : decode cL_law 758 = .ok (.invokevirtual 95, 3) := by decide +kernel
theorem dL_law_761 : decode cL_law 761 = .ok (.iload 5, 2) := by decide +kernel
theorem dL_law_763 : decode cL_law 763 = .ok (.if_icmp .eq 5, 3) := by decide +kernel
theorem dL_law_766 : decode cL_law 766 = .ok (.iconst 0, 1) := by decide +kernel
theorem dL_law_767 : decode cL_law 767 = .ok (.ireturn, 1) := by decide +kernel
theorem dL_law_768 : decode cL_law 768 = .ok (.iload 5, 2) := by decide +kernel
theorem dL_law_770 : decode cL_law 770 = .ok (.ifCond .ne 22, 3) := by decide +kernel
theorem dL_law_773 : decode cL_law 773 = .ok (.aload_n 3, 1) := by decide +kernel
theorem dL_law_774 : decode cL_law 774 = .ok (.iconst 0, 1) := by decide +kernel
theorem dL_law_775 : decode cL_law 775 = .ok (.laload, 1) := by decide +kernel
theorem dL_law_776 : decode cL_law 776 = .ok (.iload 6, 2) := by decide +kernel
theorem dL_law_778 : decode cL_law 778 = .ok (.ifCond .eq 7, 3) := by decide +kernel
theorem dL_law_781 : decode cL_law 781 = .ok (.lconst 1, 1) := by decide +kernel
theorem dL_law_782 : decode cL_law 782 = .ok (.goto 4, 3) := by decide +kernel
theorem dL_law_785 : decode cL_law 785 = .ok (.lconst 0, 1) := by decide +kernel
theorem dL_law_786 : decode cL_law 786 = .ok (.lcmp, 1) := by decide +kernel
theorem dL_law_787 : decode cL_law 787 = .ok (.ifCond .eq 5, 3) := by decide +kernel
theorem dL_law_790 : decode cL_law 790 = .ok (.iconst 0, 1) := by decide +kernel
theorem dL_law_791 : decode cL_law 791 = .ok (.ireturn, 1) := by decide +kernel
theorem dL_law_792 : decode cL_law 792 = .ok (.goto 684, 3) := by decide +kernel
theorem dL_law_795 : decode cL_law 795 = .ok (.aload_n 1, 1) := by decide +kernel
theorem dL_law_796 : decode cL_law 796 = .ok (.aload_n 0, 1) := by decide +kernel
theorem dL_law_797 : decode cL_law 797 = .ok (.iload 4, 2) := by decide +kernel
theorem dL_law_799 : decode cL_law 799 = .ok (.iconst 1, 1) := by decide +kernel
theorem dL_law_800 : decode cL_law 800 = .ok (.iadd, 1) := by decide +kernel
theorem dL_law_801 : decode cL_law 801 = .ok (.iaload, 1) := by decide +kernel
theorem dL_law_802 : decode cL_law 802 = .ok (.aload_n 3, 1) := by decide +kernel
theorem dL_law_803 : decode cL_law 803 = .ok (.invokestatic 136, 3) := by decide +kernel
theorem dL_law_806 : decode cL_law 806 = .ok (.istore 5, 2) := by decide +kernel
theorem dL_law_808 : decode cL_law 808 = .ok (.aload_n 2, 1) := by decide +kernel
theorem dL_law_809 : decode cL_law 809 = .ok (.aload_n 0, 1) := by decide +kernel
theorem dL_law_810 : decode cL_law 810 = .ok (.iload 4, 2) := by decide +kernel
theorem dL_law_812 : decode cL_law 812 = .ok (.iconst 1, 1) := by decide +kernel
theorem dL_law_813 : decode cL_law 813 = .ok (.iadd, 1) := by decide +kernel
theorem dL_law_814 : decode cL_law 814 = .ok (.iaload, 1) := by decide +kernel
theorem dL_law_815 : decode cL_law 815 = .ok (.invokevirtual 138, 3) := by decide +kernel
theorem dL_law_818 : decode cL_law 818 = .ok (.istore 6, 2) := by decide +kernel
theorem dL_law_820 : decode cL_law 820 = .ok (.aload_n 2, 1) := by decide +kernel
theorem dL_law_821 : decode cL_law 821 = .ok (.invokevirtual 95, 3) := by decide +kernel
theorem dL_law_824 : decode cL_law 824 = .ok (.iload 5, 2) := by decide +kernel
theorem dL_law_826 : decode cL_law 826 = .ok (.if_icmp .eq 5, 3) := by decide +kernel
theorem dL_law_829 : decode cL_law 829 = .ok (.iconst 0, 1) := by decide +kernel
theorem dL_law_830 : decode cL_law 830 = .ok (.ireturn, 1) := by decide +kernel
theorem dL_law_831 : decode cL_law 831 = .ok (.iload 5, 2) := by decide +kernel
theorem dL_law_833 : decode cL_law 833 = .ok (.ifCond .ne 15, 3) := by decide +kernel
theorem dL_law_836 : decode cL_law 836 = .ok (.aload_n 3, 1) := by decide +kernel
theorem dL_law_837 : decode cL_law 837 = .ok (.iconst 0, 1) := by decide +kernel
theorem dL_law_838 : decode cL_law 838 = .ok (.laload, 1) := by decide +kernel
theorem dL_law_839 : decode cL_law 839 = .ok (.iload 6, 2) := by decide +kernel
theorem dL_law_841 : decode cL_law 841 = .ok (.i2l, 1) := by decide +kernel
theorem dL_law_842 : decode cL_law 842 = .ok (.lcmp, 1) := by decide +kernel
theorem dL_law_843 : decode cL_law 843 = .ok (.ifCond .eq 5, 3) := by decide +kernel
theorem dL_law_846 : decode cL_law 846 = .ok (.iconst 0, 1) := by decide +kernel
theorem dL_law_847 : decode cL_law 847 = .ok (.ireturn, 1) := by decide +kernel
theorem dL_law_848 : decode cL_law 848 = .ok (.goto 628, 3) := by decide +kernel
theorem dL_law_851 : decode cL_law 851 = .ok (.aload_n 1, 1) := by decide +kernel
theorem dL_law_852 : decode cL_law 852 = .ok (.aload_n 0, 1) := by decide +kernel
theorem dL_law_853 : decode cL_law 853 = .ok (.iload 4, 2) := by decide +kernel
theorem dL_law_855 : decode cL_law 855 = .ok (.iconst 1, 1) := by decide +kernel
theorem dL_law_856 : decode cL_law 856 = .ok (.iadd, 1) := by decide +kernel
theorem dL_law_857 : decode cL_law 857 = .ok (.iaload, 1) := by decide +kernel
theorem dL_law_858 : decode cL_law 858 = .ok (.aload_n 3, 1) := by decide +kernel
theorem dL_law_859 : decode cL_law 859 = .ok (.invokestatic 139, 3) := by decide +kernel
theorem dL_law_862 : decode cL_law 862 = .ok (.istore 5, 2) := by decide +kernel
theorem dL_law_864 : decode cL_law 864 = .ok (.aload_n 2, 1) := by decide +kernel
theorem dL_law_865 : decode cL_law 865 = .ok (.aload_n 0, 1) := by decide +kernel
theorem dL_law_866 : decode cL_law 866 = .ok (.iload 4, 2) := by decide +kernel
theorem dL_law_868 : decode cL_law 868 = .ok (.iconst 1, 1) := by decide +kernel
theorem dL_law_869 : decode cL_law 869 = .ok (.iadd, 1) := by decide +kernel
theorem dL_law_870 : decode cL_law 870 = .ok (.iaload, 1) := by decide +kernel
theorem dL_law_871 : decode cL_law 871 = .ok (.invokevirtual 141, 3) := by decide +kernel
theorem dL_law_874 : decode cL_law 874 = .ok (.istore 6, 2) := by decide +kernel
theorem dL_law_876 : decode cL_law 876 = .ok (.aload_n 2, 1) := by decide +kernel
theorem dL_law_877 : decode cL_law 877 = .ok (.invokevirtual 95, 3) := by decide +kernel
theorem dL_law_880 : decode cL_law 880 = .ok (.iload 5, 2) := by decide +kernel
theorem dL_law_882 : decode cL_law 882 = .ok (.if_icmp .eq 5, 3) := by decide +kernel
theorem dL_law_885 : decode cL_law 885 = .ok (.iconst 0, 1) := by decide +kernel
theorem dL_law_886 : decode cL_law 886 = .ok (.ireturn, 1) := by decide +kernel
theorem dL_law_887 : decode cL_law 887 = .ok (.iload 5, 2) := by decide +kernel
theorem dL_law_889 : decode cL_law 889 = .ok (.ifCond .ne 15, 3) := by decide +kernel
theorem dL_law_892 : decode cL_law 892 = .ok (.aload_n 3, 1) := by decide +kernel
theorem dL_law_893 : decode cL_law 893 = .ok (.iconst 0, 1) := by decide +kernel
theorem dL_law_894 : decode cL_law 894 = .ok (.laload, 1) := by decide +kernel
theorem dL_law_895 : decode cL_law 895 = .ok (.iload 6, 2) := by decide +kernel
theorem dL_law_897 : decode cL_law 897 = .ok (.i2l, 1) := by decide +kernel
theorem dL_law_898 : decode cL_law 898 = .ok (.lcmp, 1) := by decide +kernel
theorem dL_law_899 : decode cL_law 899 = .ok (.ifCond .eq 5, 3) := by decide +kernel
theorem dL_law_902 : decode cL_law 902 = .ok (.iconst 0, 1) := by decide +kernel
theorem dL_law_903 : decode cL_law 903 = .ok (.ireturn, 1) := by decide +kernel
theorem dL_law_904 : decode cL_law 904 = .ok (.goto 572, 3) := by decide +kernel
theorem dL_law_907 : decode cL_law 907 = .ok (.aload_n 1, 1) := by decide +kernel
theorem dL_law_908 : decode cL_law 908 = .ok (.aload_n 0, 1) := by decide +kernel
theorem dL_law_909 : decode cL_law 909 = .ok (.iload 4, 2) := by decide +kernel
theorem dL_law_911 : decode cL_law 911 = .ok (.iconst 1, 1) := by decide +kernel
theorem dL_law_912 : decode cL_law 912 = .ok (.iadd, 1) := by decide +kernel
theorem dL_law_913 : decode cL_law 913 = .ok (.iaload, 1) := by decide +kernel
theorem dL_law_914 : decode cL_law 914 = .ok (.aload_n 0, 1) := by decide +kernel
theorem dL_law_915 : decode cL_law 915 = .ok (.iload 4, 2) := by decide +kernel
theorem dL_law_917 : decode cL_law 917 = .ok (.iconst 2, 1) := by decide +kernel
theorem dL_law_918 : decode cL_law 918 = .ok (.iadd, 1) := by decide +kernel
theorem dL_law_919 : decode cL_law 919 = .ok (.iaload, 1) := by decide +kernel
theorem dL_law_920 : decode cL_law 920 = .ok (.aload_n 3, 1) := by decide +kernel
theorem dL_law_921 : decode cL_law 921 = .ok (.invokestatic 142, 3) := by decide +kernel
theorem dL_law_924 : decode cL_law 924 = .ok (.istore 5, 2) := by decide +kernel
theorem dL_law_926 : decode cL_law 926 = .ok (.aload_n 2, 1) := by decide +kernel
theorem dL_law_927 : decode cL_law 927 = .ok (.aload_n 0, 1) := by decide +kernel
theorem dL_law_928 : decode cL_law 928 = .ok (.iload 4, 2) := by decide +kernel
theorem dL_law_930 : decode cL_law 930 = .ok (.iconst 1, 1) := by decide +kernel
theorem dL_law_931 : decode cL_law 931 = .ok (.iadd, 1) := by decide +kernel
theorem dL_law_932 : decode cL_law 932 = .ok (.iaload, 1) := by decide +kernel
theorem dL_law_933 : decode cL_law 933 = .ok (.aload_n 0, 1) := by decide +kernel
theorem dL_law_934 : decode cL_law 934 = .ok (.iload 4, 2) := by decide +kernel
theorem dL_law_936 : decode cL_law 936 = .ok (.iconst 2, 1) := by decide +kernel
theorem dL_law_937 : decode cL_law 937 = .ok (.iadd, 1) := by decide +kernel
theorem dL_law_938 : decode cL_law 938 = .ok (.iaload, 1) := by decide +kernel
theorem dL_law_939 : decode cL_law 939 = .ok (.invokevirtual 144, 3) := by decide +kernel
theorem dL_law_942 : decode cL_law 942 = .ok (.istore 6, 2) := by decide +kernel
theorem dL_law_944 : decode cL_law 944 = .ok (.aload_n 2, 1) := by decide +kernel
theorem dL_law_945 : decode cL_law 945 = .ok (.invokevirtual 95, 3) := by decide +kernel
theorem dL_law_948 : decode cL_law 948 = .ok (.iload 5, 2) := by decide +kernel
theorem dL_law_950 : decode cL_law 950 = .ok (.if_icmp .eq 5, 3) := by decide +kernel
theorem dL_law_953 : decode cL_law 953 = .ok (.iconst 0, 1) := by decide +kernel
theorem dL_law_954 : decode cL_law 954 = .ok (.ireturn, 1) := by decide +kernel
theorem dL_law_955 : decode cL_law 955 = .ok (.iload 5, 2) := by decide +kernel
theorem dL_law_957 : decode cL_law 957 = .ok (.ifCond .ne 15, 3) := by decide +kernel
theorem dL_law_960 : decode cL_law 960 = .ok (.aload_n 3, 1) := by decide +kernel
theorem dL_law_961 : decode cL_law 961 = .ok (.iconst 0, 1) := by decide +kernel
theorem dL_law_962 : decode cL_law 962 = .ok (.laload, 1) := by decide +kernel
theorem dL_law_963 : decode cL_law 963 = .ok (.iload 6, 2) := by decide +kernel
theorem dL_law_965 : decode cL_law 965 = .ok (.i2l, 1) := by decide +kernel
theorem dL_law_966 : decode cL_law 966 = .ok (.lcmp, 1) := by decide +kernel
theorem dL_law_967 : decode cL_law 967 = .ok (.ifCond .eq 5, 3) := by decide +kernel
theorem dL_law_970 : decode cL_law 970 = .ok (.iconst 0, 1) := by decide +kernel
theorem dL_law_971 : decode cL_law 971 = .ok (.ireturn, 1) := by decide +kernel
theorem dL_law_972 : decode cL_law 972 = .ok (.goto 504, 3) := by decide +kernel
theorem dL_law_975 : decode cL_law 975 = .ok (.aload_n 1, 1) := by decide +kernel
theorem dL_law_976 : decode cL_law 976 = .ok (.aload_n 0, 1) := by decide +kernel
theorem dL_law_977 : decode cL_law 977 = .ok (.iload 4, 2) := by decide +kernel
theorem dL_law_979 : decode cL_law 979 = .ok (.iconst 1, 1) := by decide +kernel
theorem dL_law_980 : decode cL_law 980 = .ok (.iadd, 1) := by decide +kernel
theorem dL_law_981 : decode cL_law 981 = .ok (.iaload, 1) := by decide +kernel
theorem dL_law_982 : decode cL_law 982 = .ok (.aload_n 0, 1) := by decide +kernel
theorem dL_law_983 : decode cL_law 983 = .ok (.iload 4, 2) := by decide +kernel
theorem dL_law_985 : decode cL_law 985 = .ok (.iconst 2, 1) := by decide +kernel
theorem dL_law_986 : decode cL_law 986 = .ok (.iadd, 1) := by decide +kernel
theorem dL_law_987 : decode cL_law 987 = .ok (.iaload, 1) := by decide +kernel
theorem dL_law_988 : decode cL_law 988 = .ok (.aload_n 0, 1) := by decide +kernel
theorem dL_law_989 : decode cL_law 989 = .ok (.iload 4, 2) := by decide +kernel
theorem dL_law_991 : decode cL_law 991 = .ok (.iconst 3, 1) := by decide +kernel
theorem dL_law_992 : decode cL_law 992 = .ok (.iadd, 1) := by decide +kernel
theorem dL_law_993 : decode cL_law 993 = .ok (.iaload, 1) := by decide +kernel
theorem dL_law_994 : decode cL_law 994 = .ok (.aload_n 0, 1) := by decide +kernel
theorem dL_law_995 : decode cL_law 995 = .ok (.iload 4, 2) := by decide +kernel
theorem dL_law_997 : decode cL_law 997 = .ok (.iconst 4, 1) := by decide +kernel
theorem dL_law_998 : decode cL_law 998 = .ok (.iadd, 1) := by decide +kernel
theorem dL_law_999 : decode cL_law 999 = .ok (.iaload, 1) := by decide +kernel
theorem dL_law_1000 : decode cL_law 1000 = .ok (.invokestatic 145, 3) := by decide +kernel
theorem dL_law_1003 : decode cL_law 1003 = .ok (.istore 5, 2) := by decide +kernel
theorem dL_law_1005 : decode cL_law 1005 = .ok (.aload_n 2, 1) := by decide +kernel
theorem dL_law_1006 : decode cL_law 1006 = .ok (.aload_n 0, 1) := by decide +kernel
theorem dL_law_1007 : decode cL_law 1007 = .ok (.iload 4, 2) := by decide +kernel
theorem dL_law_1009 : decode cL_law 1009 = .ok (.iconst 1, 1) := by decide +kernel
theorem dL_law_1010 : decode cL_law 1010 = .ok (.iadd, 1) := by decide +kernel
theorem dL_law_1011 : decode cL_law 1011 = .ok (.iaload, 1) := by decide +kernel
theorem dL_law_1012 : decode cL_law 1012 = .ok (.aload_n 0, 1) := by decide +kernel
theorem dL_law_1013 : decode cL_law 1013 = .ok (.iload 4, 2) := by decide +kernel
theorem dL_law_1015 : decode cL_law 1015 = .ok (.iconst 2, 1) := by decide +kernel
theorem dL_law_1016 : decode cL_law 1016 = .ok (.iadd, 1) := by decide +kernel
theorem dL_law_1017 : decode cL_law 1017 = .ok (.iaload, 1) := by decide +kernel
theorem dL_law_1018 : decode cL_law 1018 = .ok (.aload_n 0, 1) := by decide +kernel
theorem dL_law_1019 : decode cL_law 1019 = .ok (.iload 4, 2) := by decide +kernel
theorem dL_law_1021 : decode cL_law 1021 = .ok (.iconst 3, 1) := by decide +kernel
theorem dL_law_1022 : decode cL_law 1022 = .ok (.iadd, 1) := by decide +kernel
theorem dL_law_1023 : decode cL_law 1023 = .ok (.iaload, 1) := by decide +kernel
theorem dL_law_1024 : decode cL_law 1024 = .ok (.aload_n 0, 1) := by decide +kernel
theorem dL_law_1025 : decode cL_law 1025 = .ok (.iload 4, 2) := by decide +kernel
theorem dL_law_1027 : decode cL_law 1027 = .ok (.iconst 4, 1) := by decide +kernel
theorem dL_law_1028 : decode cL_law 1028 = .ok (.iadd, 1) := by decide +kernel
theorem dL_law_1029 : decode cL_law 1029 = .ok (.iaload, 1) := by decide +kernel
theorem dL_law_1030 : decode cL_law 1030 = .ok (.invokevirtual 148, 3) := by decide +kernel
theorem dL_law_1033 : decode cL_law 1033 = .ok (.aload_n 2, 1) := by decide +kernel
theorem dL_law_1034 : decode cL_law 1034 = .ok (.invokevirtual 95, 3) := by decide +kernel
theorem dL_law_1037 : decode cL_law 1037 = .ok (.iload 5, 2) := by decide +kernel
theorem dL_law_1039 : decode cL_law 1039 = .ok (.if_icmp .eq 5, 3) := by decide +kernel
theorem dL_law_1042 : decode cL_law 1042 = .ok (.iconst 0, 1) := by decide +kernel
theorem dL_law_1043 : decode cL_law 1043 = .ok (.ireturn, 1) := by decide +kernel
theorem dL_law_1044 : decode cL_law 1044 = .ok (.goto 432, 3) := by decide +kernel
theorem dL_law_1047 : decode cL_law 1047 = .ok (.aload_n 1, 1) := by decide +kernel
theorem dL_law_1048 : decode cL_law 1048 = .ok (.aload_n 0, 1) := by decide +kernel
theorem dL_law_1049 : decode cL_law 1049 = .ok (.iload 4, 2) := by decide +kernel
theorem dL_law_1051 : decode cL_law 1051 = .ok (.iconst 1, 1) := by decide +kernel
theorem dL_law_1052 : decode cL_law 1052 = .ok (.iadd, 1) := by decide +kernel
theorem dL_law_1053 : decode cL_law 1053 = .ok (.iaload, 1) := by decide +kernel
theorem dL_law_1054 : decode cL_law 1054 = .ok (.aload_n 3, 1) := by decide +kernel
theorem dL_law_1055 : decode cL_law 1055 = .ok (.invokestatic 149, 3) := by decide +kernel
theorem dL_law_1058 : decode cL_law 1058 = .ok (.istore 5, 2) := by decide +kernel
theorem dL_law_1060 : decode cL_law 1060 = .ok (.aload_n 2, 1) := by decide +kernel
theorem dL_law_1061 : decode cL_law 1061 = .ok (.aload_n 0, 1) := by decide +kernel
theorem dL_law_1062 : decode cL_law 1062 = .ok (.iload 4, 2) := by decide +kernel
theorem dL_law_1064 : decode cL_law 1064 = .ok (.iconst 1, 1) := by decide +kernel
theorem dL_law_1065 : decode cL_law 1065 = .ok (.iadd, 1) := by decide +kernel
theorem dL_law_1066 : decode cL_law 1066 = .ok (.iaload, 1) := by decide +kernel
theorem dL_law_1067 : decode cL_law 1067 = .ok (.invokevirtual 151, 3) := by decide +kernel
theorem dL_law_1070 : decode cL_law 1070 = .ok (.istore 6, 2) := by decide +kernel
theorem dL_law_1072 : decode cL_law 1072 = .ok (.aload_n 2, 1) := by decide +kernel
theorem dL_law_1073 : decode cL_law 1073 = .ok (.invokevirtual 95, 3) := by decide +kernel
theorem dL_law_1076 : decode cL_law 1076 = .ok (.iload 5, 2) := by decide +kernel
theorem dL_law_1078 : decode cL_law 1078 = .ok (.if_icmp .eq 5, 3) := by decide +kernel
theorem dL_law_1081 : decode cL_law 1081 = .ok (.iconst 0, 1) := by decide +kernel
theorem dL_law_1082 : decode cL_law 1082 = .ok (.ireturn, 1) := by decide +kernel
theorem dL_law_1083 : decode cL_law 1083 = .ok (.iload 5, 2) := by decide +kernel
theorem dL_law_1085 : decode cL_law 1085 = .ok (.ifCond .ne 15, 3) := by decide +kernel
theorem dL_law_1088 : decode cL_law 1088 = .ok (.aload_n 3, 1) := by decide +kernel
theorem dL_law_1089 : decode cL_law 1089 = .ok (.iconst 0, 1) := by decide +kernel
theorem dL_law_1090 : decode cL_law 1090 = .ok (.laload, 1) := by decide +kernel
theorem dL_law_1091 : decode cL_law 1091 = .ok (.iload 6, 2) := by decide +kernel
theorem dL_law_1093 : decode cL_law 1093 = .ok (.i2l, 1) := by decide +kernel
theorem dL_law_1094 : decode cL_law 1094 = .ok (.lcmp, 1) := by decide +kernel
theorem dL_law_1095 : decode cL_law 1095 = .ok (.ifCond .eq 5, 3) := by decide +kernel
theorem dL_law_1098 : decode cL_law 1098 = .ok (.iconst 0, 1) := by decide +kernel
theorem dL_law_1099 : decode cL_law 1099 = .ok (.ireturn, 1) := by decide +kernel
theorem dL_law_1100 : decode cL_law 1100 = .ok (.goto 376, 3) := by decide +kernel
theorem dL_law_1103 : decode cL_law 1103 = .ok (.aload_n 1, 1) := by decide +kernel
theorem dL_law_1104 : decode cL_law 1104 = .ok (.aload_n 0, 1) := by decide +kernel
theorem dL_law_1105 : decode cL_law 1105 = .ok (.iload 4, 2) := by decide +kernel
theorem dL_law_1107 : decode cL_law 1107 = .ok (.iconst 1, 1) := by decide +kernel
theorem dL_law_1108 : decode cL_law 1108 = .ok (.iadd, 1) := by decide +kernel
theorem dL_law_1109 : decode cL_law 1109 = .ok (.iaload, 1) := by decide +kernel
theorem dL_law_1110 : decode cL_law 1110 = .ok (.aload_n 3, 1) := by decide +kernel
theorem dL_law_1111 : decode cL_law 1111 = .ok (.invokestatic 152, 3) := by decide +kernel
theorem dL_law_1114 : decode cL_law 1114 = .ok (.istore 5, 2) := by decide +kernel
theorem dL_law_1116 : decode cL_law 1116 = .ok (.aload_n 2, 1) := by decide +kernel
theorem dL_law_1117 : decode cL_law 1117 = .ok (.aload_n 0, 1) := by decide +kernel
theorem dL_law_1118 : decode cL_law 1118 = .ok (.iload 4, 2) := by decide +kernel
theorem dL_law_1120 : decode cL_law 1120 = .ok (.iconst 1, 1) := by decide +kernel
theorem dL_law_1121 : decode cL_law 1121 = .ok (.iadd, 1) := by decide +kernel
theorem dL_law_1122 : decode cL_law 1122 = .ok (.iaload, 1) := by decide +kernel
theorem dL_law_1123 : decode cL_law 1123 = .ok (.invokevirtual 154, 3) := by decide +kernel
theorem dL_law_1126 : decode cL_law 1126 = .ok (.istore 6, 2) := by decide +kernel
theorem dL_law_1128 : decode cL_law 1128 = .ok (.aload_n 2, 1) := by decide +kernel
theorem dL_law_1129 : decode cL_law 1129 = .ok (.invokevirtual 95, 3) := by decide +kernel
theorem dL_law_1132 : decode cL_law 1132 = .ok (.iload 5, 2) := by decide +kernel
theorem dL_law_1134 : decode cL_law 1134 = .ok (.if_icmp .eq 5, 3) := by decide +kernel
theorem dL_law_1137 : decode cL_law 1137 = .ok (.iconst 0, 1) := by decide +kernel
theorem dL_law_1138 : decode cL_law 1138 = .ok (.ireturn, 1) := by decide +kernel
theorem dL_law_1139 : decode cL_law 1139 = .ok (.iload 5, 2) := by decide +kernel
theorem dL_law_1141 : decode cL_law 1141 = .ok (.ifCond .ne 15, 3) := by decide +kernel
theorem dL_law_1144 : decode cL_law 1144 = .ok (.aload_n 3, 1) := by decide +kernel
theorem dL_law_1145 : decode cL_law 1145 = .ok (.iconst 0, 1) := by decide +kernel
theorem dL_law_1146 : decode cL_law 1146 = .ok (.laload, 1) := by decide +kernel
theorem dL_law_1147 : decode cL_law 1147 = .ok (.iload 6, 2) := by decide +kernel
theorem dL_law_1149 : decode cL_law 1149 = .ok (.i2l, 1) := by decide +kernel
theorem dL_law_1150 : decode cL_law 1150 = .ok (.lcmp, 1) := by decide +kernel
theorem dL_law_1151 : decode cL_law 1151 = .ok (.ifCond .eq 5, 3) := by decide +kernel
theorem dL_law_1154 : decode cL_law 1154 = .ok (.iconst 0, 1) := by decide +kernel
theorem dL_law_1155 : decode cL_law 1155 = .ok (.ireturn, 1) := by decide +kernel
theorem dL_law_1156 : decode cL_law 1156 = .ok (.goto 320, 3) := by decide +kernel
theorem dL_law_1159 : decode cL_law 1159 = .ok (.aload_n 1, 1) := by decide +kernel
theorem dL_law_1160 : decode cL_law 1160 = .ok (.aload_n 0, 1) := by decide +kernel
theorem dL_law_1161 : decode cL_law 1161 = .ok (.iload 4, 2) := by decide +kernel
theorem dL_law_1163 : decode cL_law 1163 = .ok (.iconst 1, 1) := by decide +kernel
theorem dL_law_1164 : decode cL_law 1164 = .ok (.iadd, 1) := by decide +kernel
theorem dL_law_1165 : decode cL_law 1165 = .ok (.iaload, 1) := by decide +kernel
theorem dL_law_1166 : decode cL_law 1166 = .ok (.aload_n 0, 1) := by decide +kernel
theorem dL_law_1167 : decode cL_law 1167 = .ok (.iload 4, 2) := by decide +kernel
theorem dL_law_1169 : decode cL_law 1169 = .ok (.iconst 2, 1) := by decide +kernel
theorem dL_law_1170 : decode cL_law 1170 = .ok (.iadd, 1) := by decide +kernel
theorem dL_law_1171 : decode cL_law 1171 = .ok (.iaload, 1) := by decide +kernel
theorem dL_law_1172 : decode cL_law 1172 = .ok (.aload_n 0, 1) := by decide +kernel
theorem dL_law_1173 : decode cL_law 1173 = .ok (.iload 4, 2) := by decide +kernel
theorem dL_law_1175 : decode cL_law 1175 = .ok (.iconst 3, 1) := by decide +kernel
theorem dL_law_1176 : decode cL_law 1176 = .ok (.iadd, 1) := by decide +kernel
theorem dL_law_1177 : decode cL_law 1177 = .ok (.iaload, 1) := by decide +kernel
theorem dL_law_1178 : decode cL_law 1178 = .ok (.aload_n 3, 1) := by decide +kernel
theorem dL_law_1179 : decode cL_law 1179 = .ok (.invokestatic 155, 3) := by decide +kernel
theorem dL_law_1182 : decode cL_law 1182 = .ok (.istore 5, 2) := by decide +kernel
theorem dL_law_1184 : decode cL_law 1184 = .ok (.aload_n 2, 1) := by decide +kernel
theorem dL_law_1185 : decode cL_law 1185 = .ok (.aload_n 0, 1) := by decide +kernel
theorem dL_law_1186 : decode cL_law 1186 = .ok (.iload 4, 2) := by decide +kernel
theorem dL_law_1188 : decode cL_law 1188 = .ok (.iconst 1, 1) := by decide +kernel
theorem dL_law_1189 : decode cL_law 1189 = .ok (.iadd, 1) := by decide +kernel
theorem dL_law_1190 : decode cL_law 1190 = .ok (.iaload, 1) := by decide +kernel
theorem dL_law_1191 : decode cL_law 1191 = .ok (.aload_n 0, 1) := by decide +kernel
theorem dL_law_1192 : decode cL_law 1192 = .ok (.iload 4, 2) := by decide +kernel
theorem dL_law_1194 : decode cL_law 1194 = .ok (.iconst 2, 1) := by decide +kernel
theorem dL_law_1195 : decode cL_law 1195 = .ok (.iadd, 1) := by decide +kernel
theorem dL_law_1196 : decode cL_law 1196 = .ok (.iaload, 1) := by decide +kernel
theorem dL_law_1197 : decode cL_law 1197 = .ok (.aload_n 0, 1) := by decide +kernel
theorem dL_law_1198 : decode cL_law 1198 = .ok (.iload 4, 2) := by decide +kernel
theorem dL_law_1200 : decode cL_law 1200 = .ok (.iconst 3, 1) := by decide +kernel
theorem dL_law_1201 : decode cL_law 1201 = .ok (.iadd, 1) := by decide +kernel
theorem dL_law_1202 : decode cL_law 1202 = .ok (.iaload, 1) := by decide +kernel
theorem dL_law_1203 : decode cL_law 1203 = .ok (.invokevirtual 158, 3) := by decide +kernel
theorem dL_law_1206 : decode cL_law 1206 = .ok (.istore 6, 2) := by decide +kernel
theorem dL_law_1208 : decode cL_law 1208 = .ok (.aload_n 2, 1) := by decide +kernel
theorem dL_law_1209 : decode cL_law 1209 = .ok (.invokevirtual 95, 3) := by decide +kernel
theorem dL_law_1212 : decode cL_law 1212 = .ok (.iload 5, 2) := by decide +kernel
theorem dL_law_1214 : decode cL_law 1214 = .ok (.if_icmp .eq 5, 3) := by decide +kernel
theorem dL_law_1217 : decode cL_law 1217 = .ok (.iconst 0, 1) := by decide +kernel
theorem dL_law_1218 : decode cL_law 1218 = .ok (.ireturn, 1) := by decide +kernel
theorem dL_law_1219 : decode cL_law 1219 = .ok (.iload 5, 2) := by decide +kernel
theorem dL_law_1221 : decode cL_law 1221 = .ok (.ifCond .ne 15, 3) := by decide +kernel
theorem dL_law_1224 : decode cL_law 1224 = .ok (.aload_n 3, 1) := by decide +kernel
theorem dL_law_1225 : decode cL_law 1225 = .ok (.iconst 0, 1) := by decide +kernel
theorem dL_law_1226 : decode cL_law 1226 = .ok (.laload, 1) := by decide +kernel
theorem dL_law_1227 : decode cL_law 1227 = .ok (.iload 6, 2) := by decide +kernel
theorem dL_law_1229 : decode cL_law 1229 = .ok (.i2l, 1) := by decide +kernel
theorem dL_law_1230 : decode cL_law 1230 = .ok (.lcmp, 1) := by decide +kernel
theorem dL_law_1231 : decode cL_law 1231 = .ok (.ifCond .eq 5, 3) := by decide +kernel
theorem dL_law_1234 : decode cL_law 1234 = .ok (.iconst 0, 1) := by decide +kernel
theorem dL_law_1235 : decode cL_law 1235 = .ok (.ireturn, 1) := by decide +kernel
theorem dL_law_1236 : decode cL_law 1236 = .ok (.goto 240, 3) := by decide +kernel
theorem dL_law_1239 : decode cL_law 1239 = .ok (.aload_n 1, 1) := by decide +kernel
theorem dL_law_1240 : decode cL_law 1240 = .ok (.aload_n 0, 1) := by decide +kernel
theorem dL_law_1241 : decode cL_law 1241 = .ok (.iload 4, 2) := by decide +kernel
theorem dL_law_1243 : decode cL_law 1243 = .ok (.iconst 1, 1) := by decide +kernel
theorem dL_law_1244 : decode cL_law 1244 = .ok (.iadd, 1) := by decide +kernel
theorem dL_law_1245 : decode cL_law 1245 = .ok (.iaload, 1) := by decide +kernel
theorem dL_law_1246 : decode cL_law 1246 = .ok (.aload_n 3, 1) := by decide +kernel
theorem dL_law_1247 : decode cL_law 1247 = .ok (.invokestatic 159, 3) := by decide +kernel
theorem dL_law_1250 : decode cL_law 1250 = .ok (.istore 5, 2) := by decide +kernel
theorem dL_law_1252 : decode cL_law 1252 = .ok (.aload_n 2, 1) := by decide +kernel
theorem dL_law_1253 : decode cL_law 1253 = .ok (.aload_n 0, 1) := by decide +kernel
theorem dL_law_1254 : decode cL_law 1254 = .ok (.iload 4, 2) := by decide +kernel
theorem dL_law_1256 : decode cL_law 1256 = .ok (.iconst 1, 1) := by decide +kernel
theorem dL_law_1257 : decode cL_law 1257 = .ok (.iadd, 1) := by decide +kernel
theorem dL_law_1258 : decode cL_law 1258 = .ok (.iaload, 1) := by decide +kernel
theorem dL_law_1259 : decode cL_law 1259 = .ok (.invokevirtual 161, 3) := by decide +kernel
theorem dL_law_1262 : decode cL_law 1262 = .ok (.istore 6, 2) := by decide +kernel
theorem dL_law_1264 : decode cL_law 1264 = .ok (.aload_n 2, 1) := by decide +kernel
theorem dL_law_1265 : decode cL_law 1265 = .ok (.invokevirtual 95, 3) := by decide +kernel
theorem dL_law_1268 : decode cL_law 1268 = .ok (.iload 5, 2) := by decide +kernel
theorem dL_law_1270 : decode cL_law 1270 = .ok (.if_icmp .eq 5, 3) := by decide +kernel
theorem dL_law_1273 : decode cL_law 1273 = .ok (.iconst 0, 1) := by decide +kernel
theorem dL_law_1274 : decode cL_law 1274 = .ok (.ireturn, 1) := by decide +kernel
theorem dL_law_1275 : decode cL_law 1275 = .ok (.iload 5, 2) := by decide +kernel
theorem dL_law_1277 : decode cL_law 1277 = .ok (.ifCond .ne 15, 3) := by decide +kernel
theorem dL_law_1280 : decode cL_law 1280 = .ok (.aload_n 3, 1) := by decide +kernel
theorem dL_law_1281 : decode cL_law 1281 = .ok (.iconst 0, 1) := by decide +kernel
theorem dL_law_1282 : decode cL_law 1282 = .ok (.laload, 1) := by decide +kernel
theorem dL_law_1283 : decode cL_law 1283 = .ok (.iload 6, 2) := by decide +kernel
theorem dL_law_1285 : decode cL_law 1285 = .ok (.i2l, 1) := by decide +kernel
theorem dL_law_1286 : decode cL_law 1286 = .ok (.lcmp, 1) := by decide +kernel
theorem dL_law_1287 : decode cL_law 1287 = .ok (.ifCond .eq 5, 3) := by decide +kernel
theorem dL_law_1290 : decode cL_law 1290 = .ok (.iconst 0, 1) := by decide +kernel
theorem dL_law_1291 : decode cL_law 1291 = .ok (.ireturn, 1) := by decide +kernel
theorem dL_law_1292 : decode cL_law 1292 = .ok (.goto 184, 3) := by decide +kernel
theorem dL_law_1295 : decode cL_law 1295 = .ok (.aload_n 1, 1) := by decide +kernel
theorem dL_law_1296 : decode cL_law 1296 = .ok (.aload_n 0, 1) := by decide +kernel
theorem dL_law_1297 : decode cL_law 1297 = .ok (.iload 4, 2) := by decide +kernel
theorem dL_law_1299 : decode cL_law 1299 = .ok (.iconst 1, 1) := by decide +kernel
theorem dL_law_1300 : decode cL_law 1300 = .ok (.iadd, 1) := by decide +kernel
theorem dL_law_1301 : decode cL_law 1301 = .ok (.iaload, 1) := by decide +kernel
theorem dL_law_1302 : decode cL_law 1302 = .ok (.aload_n 3, 1) := by decide +kernel
theorem dL_law_1303 : decode cL_law 1303 = .ok (.invokestatic 162, 3) := by decide +kernel
theorem dL_law_1306 : decode cL_law 1306 = .ok (.istore 5, 2) := by decide +kernel
theorem dL_law_1308 : decode cL_law 1308 = .ok (.aload_n 2, 1) := by decide +kernel
theorem dL_law_1309 : decode cL_law 1309 = .ok (.aload_n 0, 1) := by decide +kernel
theorem dL_law_1310 : decode cL_law 1310 = .ok (.iload 4, 2) := by decide +kernel
theorem dL_law_1312 : decode cL_law 1312 = .ok (.iconst 1, 1) := by decide +kernel
theorem dL_law_1313 : decode cL_law 1313 = .ok (.iadd, 1) := by decide +kernel
theorem dL_law_1314 : decode cL_law 1314 = .ok (.iaload, 1) := by decide +kernel
theorem dL_law_1315 : decode cL_law 1315 = .ok (.invokevirtual 164, 3) := by decide +kernel
theorem dL_law_1318 : decode cL_law 1318 = .ok (.istore 6, 2) := by decide +kernel
theorem dL_law_1320 : decode cL_law 1320 = .ok (.aload_n 2, 1) := by decide +kernel
theorem dL_law_1321 : decode cL_law 1321 = .ok (.invokevirtual 95, 3) := by decide +kernel
theorem dL_law_1324 : decode cL_law 1324 = .ok (.iload 5, 2) := by decide +kernel
theorem dL_law_1326 : decode cL_law 1326 = .ok (.if_icmp .eq 5, 3) := by decide +kernel
theorem dL_law_1329 : decode cL_law 1329 = .ok (.iconst 0, 1) := by decide +kernel
theorem dL_law_1330 : decode cL_law 1330 = .ok (.ireturn, 1) := by decide +kernel
theorem dL_law_1331 : decode cL_law 1331 = .ok (.iload 5, 2) := by decide +kernel
theorem dL_law_1333 : decode cL_law 1333 = .ok (.ifCond .ne 15, 3) := by decide +kernel
theorem dL_law_1336 : decode cL_law 1336 = .ok (.aload_n 3, 1) := by decide +kernel
theorem dL_law_1337 : decode cL_law 1337 = .ok (.iconst 0, 1) := by decide +kernel
theorem dL_law_1338 : decode cL_law 1338 = .ok (.laload, 1) := by decide +kernel
theorem dL_law_1339 : decode cL_law 1339 = .ok (.iload 6, 2) := by decide +kernel
theorem dL_law_1341 : decode cL_law 1341 = .ok (.i2l, 1) := by decide +kernel
theorem dL_law_1342 : decode cL_law 1342 = .ok (.lcmp, 1) := by decide +kernel
theorem dL_law_1343 : decode cL_law 1343 = .ok (.ifCond .eq 5, 3) := by decide +kernel
theorem dL_law_1346 : decode cL_law 1346 = .ok (.iconst 0, 1) := by decide +kernel
theorem dL_law_1347 : decode cL_law 1347 = .ok (.ireturn, 1) := by decide +kernel
theorem dL_law_1348 : decode cL_law 1348 = .ok (.goto 128, 3) := by decide +kernel
theorem dL_law_1351 : decode cL_law 1351 = .ok (.aload_n 1, 1) := by decide +kernel
theorem dL_law_1352 : decode cL_law 1352 = .ok (.aload_n 0, 1) := by decide +kernel
theorem dL_law_1353 : decode cL_law 1353 = .ok (.iload 4, 2) := by decide +kernel
theorem dL_law_1355 : decode cL_law 1355 = .ok (.iconst 1, 1) := by decide +kernel
theorem dL_law_1356 : decode cL_law 1356 = .ok (.iadd, 1) := by decide +kernel
theorem dL_law_1357 : decode cL_law 1357 = .ok (.iaload, 1) := by decide +kernel
theorem dL_law_1358 : decode cL_law 1358 = .ok (.aload_n 3, 1) := by decide +kernel
theorem dL_law_1359 : decode cL_law 1359 = .ok (.invokestatic 165, 3) := by decide +kernel
theorem dL_law_1362 : decode cL_law 1362 = .ok (.istore 5, 2) := by decide +kernel
theorem dL_law_1364 : decode cL_law 1364 = .ok (.aload_n 2, 1) := by decide +kernel
theorem dL_law_1365 : decode cL_law 1365 = .ok (.aload_n 0, 1) := by decide +kernel
theorem dL_law_1366 : decode cL_law 1366 = .ok (.iload 4, 2) := by decide +kernel
theorem dL_law_1368 : decode cL_law 1368 = .ok (.iconst 1, 1) := by decide +kernel
theorem dL_law_1369 : decode cL_law 1369 = .ok (.iadd, 1) := by decide +kernel
theorem dL_law_1370 : decode cL_law 1370 = .ok (.iaload, 1) := by decide +kernel
theorem dL_law_1371 : decode cL_law 1371 = .ok (.invokevirtual 167, 3) := by decide +kernel
theorem dL_law_1374 : decode cL_law 1374 = .ok (.istore 6, 2) := by decide +kernel
theorem dL_law_1376 : decode cL_law 1376 = .ok (.aload_n 2, 1) := by decide +kernel
theorem dL_law_1377 : decode cL_law 1377 = .ok (.invokevirtual 95, 3) := by decide +kernel
theorem dL_law_1380 : decode cL_law 1380 = .ok (.iload 5, 2) := by decide +kernel
theorem dL_law_1382 : decode cL_law 1382 = .ok (.if_icmp .eq 5, 3) := by decide +kernel
theorem dL_law_1385 : decode cL_law 1385 = .ok (.iconst 0, 1) := by decide +kernel
theorem dL_law_1386 : decode cL_law 1386 = .ok (.ireturn, 1) := by decide +kernel
theorem dL_law_1387 : decode cL_law 1387 = .ok (.iload 5, 2) := by decide +kernel
theorem dL_law_1389 : decode cL_law 1389 = .ok (.ifCond .ne 15, 3) := by decide +kernel
theorem dL_law_1392 : decode cL_law 1392 = .ok (.aload_n 3, 1) := by decide +kernel
theorem dL_law_1393 : decode cL_law 1393 = .ok (.iconst 0, 1) := by decide +kernel
theorem dL_law_1394 : decode cL_law 1394 = .ok (.laload, 1) := by decide +kernel
theorem dL_law_1395 : decode cL_law 1395 = .ok (.iload 6, 2) := by decide +kernel
theorem dL_law_1397 : decode cL_law 1397 = .ok (.i2l, 1) := by decide +kernel
theorem dL_law_1398 : decode cL_law 1398 = .ok (.lcmp, 1) := by decide +kernel
theorem dL_law_1399 : decode cL_law 1399 = .ok (.ifCond .eq 5, 3) := by decide +kernel
theorem dL_law_1402 : decode cL_law 1402 = .ok (.iconst 0, 1) := by decide +kernel
theorem dL_law_1403 : decode cL_law 1403 = .ok (.ireturn, 1) := by decide +kernel
theorem dL_law_1404 : decode cL_law 1404 = .ok (.goto 72, 3) := by decide +kernel
theorem dL_law_1407 : decode cL_law 1407 = .ok (.aload_n 1, 1) := by decide +kernel
theorem dL_law_1408 : decode cL_law 1408 = .ok (.invokevirtual 168, 3) := by decide +kernel
theorem dL_law_1411 : decode cL_law 1411 = .ok (.aload_n 2, 1) := by decide +kernel
theorem dL_law_1412 : decode cL_law 1412 = .ok (.invokevirtual 171, 3) := by decide +kernel
theorem dL_law_1415 : decode cL_law 1415 = .ok (.if_icmp .eq 61, 3) := by decide +kernel
theorem dL_law_1418 : decode cL_law 1418 = .ok (.iconst 0, 1) := by decide +kernel
theorem dL_law_1419 : decode cL_law 1419 = .ok (.ireturn, 1) := by decide +kernel
theorem dL_law_1420 : decode cL_law 1420 = .ok (.aload_n 1, 1) := by decide +kernel
theorem dL_law_1421 : decode cL_law 1421 = .ok (.aload_n 0, 1) := by decide +kernel
theorem dL_law_1422 : decode cL_law 1422 = .ok (.iload 4, 2) := by decide +kernel
theorem dL_law_1424 : decode cL_law 1424 = .ok (.iconst 1, 1) := by decide +kernel
theorem dL_law_1425 : decode cL_law 1425 = .ok (.iadd, 1) := by decide +kernel
theorem dL_law_1426 : decode cL_law 1426 = .ok (.iaload, 1) := by decide +kernel
theorem dL_law_1427 : decode cL_law 1427 = .ok (.aload_n 3, 1) := by decide +kernel
theorem dL_law_1428 : decode cL_law 1428 = .ok (.invokestatic 172, 3) := by decide +kernel
theorem dL_law_1431 : decode cL_law 1431 = .ok (.istore 5, 2) := by decide +kernel
theorem dL_law_1433 : decode cL_law 1433 = .ok (.aload_n 2, 1) := by decide +kernel
theorem dL_law_1434 : decode cL_law 1434 = .ok (.aload_n 0, 1) := by decide +kernel
theorem dL_law_1435 : decode cL_law 1435 = .ok (.iload 4, 2) := by decide +kernel
theorem dL_law_1437 : decode cL_law 1437 = .ok (.iconst 1, 1) := by decide +kernel
theorem dL_law_1438 : decode cL_law 1438 = .ok (.iadd, 1) := by decide +kernel
theorem dL_law_1439 : decode cL_law 1439 = .ok (.iaload, 1) := by decide +kernel
theorem dL_law_1440 : decode cL_law 1440 = .ok (.invokevirtual 174, 3) := by decide +kernel
theorem dL_law_1443 : decode cL_law 1443 = .ok (.istore 6, 2) := by decide +kernel
theorem dL_law_1445 : decode cL_law 1445 = .ok (.aload_n 2, 1) := by decide +kernel
theorem dL_law_1446 : decode cL_law 1446 = .ok (.invokevirtual 95, 3) := by decide +kernel
theorem dL_law_1449 : decode cL_law 1449 = .ok (.iload 5, 2) := by decide +kernel
theorem dL_law_1451 : decode cL_law 1451 = .ok (.if_icmp .eq 5, 3) := by decide +kernel
theorem dL_law_1454 : decode cL_law 1454 = .ok (.iconst 0, 1) := by decide +kernel
theorem dL_law_1455 : decode cL_law 1455 = .ok (.ireturn, 1) := by decide +kernel
theorem dL_law_1456 : decode cL_law 1456 = .ok (.iload 5, 2) := by decide +kernel
theorem dL_law_1458 : decode cL_law 1458 = .ok (.ifCond .ne 15, 3) := by decide +kernel
theorem dL_law_1461 : decode cL_law 1461 = .ok (.aload_n 3, 1) := by decide +kernel
theorem dL_law_1462 : decode cL_law 1462 = .ok (.iconst 0, 1) := by decide +kernel
theorem dL_law_1463 : decode cL_law 1463 = .ok (.laload, 1) := by decide +kernel
theorem dL_law_1464 : decode cL_law 1464 = .ok (.iload 6, 2) := by decide +kernel
theorem dL_law_1466 : decode cL_law 1466 = .ok (.i2l, 1) := by decide +kernel
theorem dL_law_1467 : decode cL_law 1467 = .ok (.lcmp, 1) := by decide +kernel
theorem dL_law_1468 : decode cL_law 1468 = .ok (.ifCond .eq 5, 3) := by decide +kernel
theorem dL_law_1471 : decode cL_law 1471 = .ok (.iconst 0, 1) := by decide +kernel
theorem dL_law_1472 : decode cL_law 1472 = .ok (.ireturn, 1) := by decide +kernel
theorem dL_law_1473 : decode cL_law 1473 = .ok (.goto 3, 3) := by decide +kernel
theorem dL_law_1476 : decode cL_law 1476 = .ok (.iinc 4 5, 3) := by decide +kernel
theorem dL_law_1479 : decode cL_law 1479 = .ok (.goto (-1456), 3) := by decide +kernel
theorem dL_law_1482 : decode cL_law 1482 = .ok (.iconst 1, 1) := by decide +kernel
theorem dL_law_1483 : decode cL_law 1483 = .ok (.ireturn, 1) := by decide +kernel
end
section
/-! MY WORDS: all words of the tables that hold along a run, the nest links, the world as a map -/
def wa_isNest : Cond → Bool
  | .fieldLinkNest .. => true
  | .methodLinkNest .. => true
  | _ => false
def wa_ALL : List Cond := lw_tbl.filter goodWord
def wa_NST : List Cond := tables_1.filter wa_isNest
theorem wa_good : GoodIn wa_ALL wa_ALL := fun w h => ⟨h, good_of_word (List.mem_filter.mp h).2⟩
theorem wa_in {w : Cond} (i : Nat) (h : lw_tbl[i]? = some w) (hg : goodWord w = true) : w ∈ wa_ALL := List.mem_filter.mpr ⟨List.mem_of_getElem? h, hg⟩
theorem wa_inN {w : Cond} (i : Nat) (h : tables_1[i]? = some w) (hg : wa_isNest w = true) : w ∈ wa_NST := List.mem_filter.mpr ⟨List.mem_of_getElem? h, hg⟩
abbrev wa_ty (cy : Nat → ClassId) : List (ClassId × FieldType) := [(cy 0, .int), (cy 1, .boolean), (cy 2, .object RX0), (cy 3, .object RX1), (cy 4, .object RX3), (cy 5, .long)]
/-- what every method of the system is told of the tables -/
def wa_SB (D : va_G) (cy : Nat → ClassId) (U : State) : Prop := (∀ w ∈ wa_ALL, w.before #[] U = true) ∧ (∀ w ∈ wa_NST, va_Nw w U) ∧ va_K D vwCl (wa_ty cy) U
theorem wa_SB.all {D : va_G} {cy : Nat → ClassId} {s : State} (h : wa_SB D cy s) (args : Array Value) : ∀ w ∈ wa_ALL, w.before args s = true :=
  fun w hw => pay_in h.1 wa_good w hw args s (State.WarmedH.refl s)
theorem wa_nestW {w : Cond} (hn : wa_isNest w = true) {s U : State} (hW : s.WarmedH U.vm) (h : va_Nw w s) : va_Nw w U := by
  cases w <;> first | exact h.warmF hW | exact h.warmM hW | exact va_Nw.warmF hW h | exact va_Nw.warmM hW h | (simp [wa_isNest] at hn; done)
theorem wa_SB.warm {D : va_G} {cy : Nat → ClassId} {s U : State} (h : wa_SB D cy s) (hW : s.WarmedH U.vm) : wa_SB D cy U :=
  ⟨fun w hw => pay_in h.1 wa_good w hw #[] U hW, fun w hw => wa_nestW (List.mem_filter.mp hw).2 hW (h.2.1 w hw), va_K.moved hW.alike h.2.2⟩
/-- a start: the arguments, the tables, and what is said of the heap -/
def wa_pc (av : List Value) (D : va_G) (cy : Nat → ClassId) (Pre : Heap → Prop) : Array Value → State → Prop := fun v U => v = av.toArray ∧ wa_SB D cy U ∧ Pre U.heap
theorem wa_blind {av : List Value} {D : va_G} {cy : Nat → ClassId} {Pre : Heap → Prop} : FrameBlind (wa_pc av D cy Pre) := by
  intro a U g mk h
  exact ⟨h.1, wa_SB.warm h.2.1 (State.WarmedH.refl U), h.2.2⟩
theorem wa_pre {av : List Value} {D : va_G} {cy : Nat → ClassId} {Pre : Heap → Prop} {s : State} {H : Heap} (hs : wa_SB D cy s) (hP : Pre H) : PreS s H (wa_pc av D cy Pre) av :=
  ⟨wa_blind, fun U hU hW => ⟨rfl, hs.warm hW, by rw [hU]; exact hP⟩⟩
/-- the world: a map from (kind, place) to cells, the addresses by ad -/
abbrev wa_C : Type := Nat → Nat → Option va_E
def wa_wd (D : va_G) (ad : Nat → Nat → Nat) (C : wa_C) (H : Heap) : Prop := ∀ (kd i : Nat) (e : va_E), C kd i = some e → va_at D vwCl (ad kd i, e) H
def wa_wj (A : Nat → Prop) (ad : Nat → Nat → Nat) (C : wa_C) : Prop := (∀ (kd i kd' i' : Nat) (e e' : va_E), C kd i = some e → C kd' i' = some e' → ad kd i = ad kd' i' → kd = kd' ∧ i = i') ∧ ∀ (kd i : Nat) (e : va_E), C kd i = some e → A (ad kd i)
def wa_up (C : wa_C) (kd i : Nat) (e : va_E) : wa_C := fun a b => if a = kd ∧ b = i then some e else C a b
def wa_ad (ad : Nat → Nat → Nat) (kd i q : Nat) : Nat → Nat → Nat := fun a b => if a = kd ∧ b = i then q else ad a b
theorem wa_up_s (C : wa_C) (kd i : Nat) (e : va_E) : wa_up C kd i e kd i = some e := by simp [wa_up]
theorem wa_up_n {C : wa_C} {kd i a b : Nat} {e : va_E} (h : ¬ (a = kd ∧ b = i)) : wa_up C kd i e a b = C a b := by simp [wa_up, h]
theorem wa_one {D : va_G} {ad : Nat → Nat → Nat} {C : wa_C} {H : Heap} {kd i : Nat} {e : va_E} (h : wa_wd D ad C H) (he : C kd i = some e) : va_P D vwCl [(ad kd i, e)] H := by
  intro k q hk
  match k, hk with
  | 0, hk => cases hk; exact h kd i e he
  | k + 1, hk => simp at hk
theorem wa_wd.put {D : va_G} {A : Nat → Prop} {ad : Nat → Nat → Nat} {C : wa_C} {H H1 : Heap} {kd i : Nat} {e0 e : va_E} (h : wa_wd D ad C H) (hj : wa_wj A ad C) (he : C kd i = some e0) (h1 : va_at D vwCl (ad kd i, e) H1) (oq : ∀ q : Nat, q ≠ ad kd i → H1[q]? = H[q]?) : wa_wd D ad (wa_up C kd i e) H1 := by
  intro a b e' hc
  by_cases hab : a = kd ∧ b = i
  · obtain ⟨rfl, rfl⟩ := hab
    rw [wa_up_s] at hc
    cases hc
    exact h1
  · rw [wa_up_n hab] at hc
    exact (h a b e' hc).kept (oq _ (fun q => hab (hj.1 _ _ _ _ _ _ hc he q)))
theorem wa_wj.put {A : Nat → Prop} {ad : Nat → Nat → Nat} {C : wa_C} {kd i : Nat} {e0 e : va_E} (hj : wa_wj A ad C) (he : C kd i = some e0) : wa_wj A ad (wa_up C kd i e) := by
  have key : ∀ (a b : Nat) (x : va_E), wa_up C kd i e a b = some x → ∃ y, C a b = some y := by
    intro a b x hx
    by_cases hab : a = kd ∧ b = i
    · obtain ⟨rfl, rfl⟩ := hab; exact ⟨_, he⟩
    · rw [wa_up_n hab] at hx; exact ⟨_, hx⟩
  refine ⟨fun a b a' b' x x' hx hx' q => ?_, fun a b x hx => ?_⟩
  · obtain ⟨y, hy⟩ := key _ _ _ hx
    obtain ⟨y', hy'⟩ := key _ _ _ hx'
    exact hj.1 _ _ _ _ _ _ hy hy' q
  · obtain ⟨y, hy⟩ := key _ _ _ hx
    exact hj.2 _ _ _ hy
theorem wa_wd.lt {D : va_G} {ad : Nat → Nat → Nat} {C : wa_C} {H : Heap} {kd i : Nat} {e : va_E} (h : wa_wd D ad C H) (he : C kd i = some e) : ad kd i < H.size := (h kd i e he).lt
theorem wa_wd.add {D : va_G} {ad : Nat → Nat → Nat} {C : wa_C} {H H1 : Heap} {kd i q : Nat} {e : va_E} (h : wa_wd D ad C H) (hn : C kd i = none) (h1 : va_at D vwCl (q, e) H1) (oq : ∀ x : Nat, x < H.size → H1[x]? = H[x]?) : wa_wd D (wa_ad ad kd i q) (wa_up C kd i e) H1 := by
  intro a b e' hc
  by_cases hab : a = kd ∧ b = i
  · obtain ⟨rfl, rfl⟩ := hab
    rw [wa_up_s] at hc
    cases hc
    simpa [wa_ad] using h1
  · rw [wa_up_n hab] at hc
    have hx : wa_ad ad kd i q a b = ad a b := by simp [wa_ad, hab]
    rw [hx]
    exact (h a b e' hc).kept (oq _ (h.lt hc))
theorem wa_wj.add {D : va_G} {A : Nat → Prop} {ad : Nat → Nat → Nat} {C : wa_C} {H : Heap} {kd i q : Nat} {e : va_E} (hj : wa_wj A ad C) (h : wa_wd D ad C H) (hq : H.size ≤ q) (hA : A q) : wa_wj A (wa_ad ad kd i q) (wa_up C kd i e) := by
  have key : ∀ (a b : Nat) (x : va_E), wa_up C kd i e a b = some x → ((a = kd ∧ b = i) ∧ wa_ad ad kd i q a b = q) ∨ (¬ (a = kd ∧ b = i) ∧ C a b = some x ∧ wa_ad ad kd i q a b = ad a b ∧ ad a b < q) := by
    intro a b x hx
    by_cases hab : a = kd ∧ b = i
    · exact Or.inl ⟨hab, by simp [wa_ad, hab]⟩
    · rw [wa_up_n hab] at hx
      exact Or.inr ⟨hab, hx, by simp [wa_ad, hab], Nat.lt_of_lt_of_le (h.lt hx) hq⟩
  refine ⟨fun a b a' b' x x' hx hx' g => ?_, fun a b x hx => ?_⟩
  · rcases key _ _ _ hx with ⟨h1, h2⟩ | ⟨h1, h2, h3, h4⟩ <;> rcases key _ _ _ hx' with ⟨k1, k2⟩ | ⟨k1, k2, k3, k4⟩
    · exact ⟨h1.1.trans k1.1.symm, h1.2.trans k1.2.symm⟩
    · omega
    · omega
    · exact hj.1 _ _ _ _ _ _ h2 k2 (by omega)
  · rcases key _ _ _ hx with ⟨h1, h2⟩ | ⟨h1, h2, h3, h4⟩
    · rw [h2]; exact hA
    · rw [h3]; exact hj.2 _ _ _ h2
theorem wa_wd.grow {D : va_G} {ad : Nat → Nat → Nat} {C : wa_C} {H H1 : Heap} (h : wa_wd D ad C H) (oq : ∀ x : Nat, x < H.size → H1[x]? = H[x]?) : wa_wd D ad C H1 := fun a b e hc => (h a b e hc).kept (oq _ (h.lt hc))
end
section
/-! MY ROWS: ints by their numbers -/
def iI (z : Int) : Int32 := Int32.ofInt z
abbrev wa_r (z : Int) : Prop := -2147483648 ≤ z ∧ z < 2147483648
theorem iI_t {z : Int} (h : wa_r z) : (iI z).toInt = z := by
  have h2 : z.bmod (2 ^ 32) = z := by rw [Int.bmod_eq_of_le (by omega) (by omega)]
  show (Int32.ofInt z).toInt = z
  rw [Int32.toInt_ofInt]
  exact h2
theorem iI_as (x : Int32) : iI x.toInt = x := Int32.ofInt_toInt x
theorem iI_rng (x : Int32) : wa_r x.toInt := by
  have h1 := Int32.le_toInt x
  have h2 := Int32.toInt_lt x
  exact ⟨by omega, by omega⟩
theorem iI_add (a b : Int) : iI a + iI b = iI (a + b) := (Int32.ofInt_add a b).symm
theorem iI_sub (a b : Int) : iI a - iI b = iI (a - b) := (Int32.ofInt_sub a b).symm
theorem iI_mul (a b : Int) : iI a * iI b = iI (a * b) := (Int32.ofInt_mul a b).symm
theorem iI_lt {a b : Int} (ha : wa_r a) (hb : wa_r b) : iI a < iI b ↔ a < b := by rw [Int32.lt_iff_toInt_lt, iI_t ha, iI_t hb]
theorem iI_le {a b : Int} (ha : wa_r a) (hb : wa_r b) : iI a ≤ iI b ↔ a ≤ b := by rw [Int32.le_iff_toInt_le, iI_t ha, iI_t hb]
theorem iI_eq {a b : Int} (ha : wa_r a) (hb : wa_r b) : iI a = iI b ↔ a = b := by rw [← Int32.toInt_inj, iI_t ha, iI_t hb]
theorem iI_0 : (0 : Int32) = iI 0 := by decide +kernel
theorem iI_cl {z : Int} {j : Nat} (hz : z = (j : Int)) (hj : j < 2147483648) : (iI z).toNatClampNeg = j := by
  show (iI z).toInt.toNat = j
  rw [iI_t ⟨by omega, by omega⟩]
  omega
theorem iI_in {z : Int} {j n : Nat} (hz : z = (j : Int)) (hj : j < n) (hn : n < 2147483648) : vp_in (iI z) n := by
  rw [vp_in_iff, iI_t ⟨by omega, by omega⟩]
  omega
theorem iI_len (n : Nat) (hn : n < 2147483648) : Int32.ofNat n = iI (n : Int) := by
  rw [← Int32.toInt_inj, iI_t ⟨by omega, by omega⟩]
  exact nI_toInt hn
section WAR
variable {p : Program} {l : Launch} {e : Env} {R : Room} {s : State} {m : MethodId} {args : Array Value} {below : List Frame} {meth : Method} {c : Code} {H : Heap} {locs : List Loc} {cells slots : Nat} {Q : State → Prop}
variable {cc : ByteArray} {pc : Nat} {ls : Array Slot} {rest : List Value} {D : va_G} {A : Nat → Prop} {H0 : Heap} {cy : Nat → ClassId} {ad : Nat → Nat → Nat} {C : wa_C} {nL : Nat} {own nm : String} {ret : Option FieldType}
/-- what holds all along a method's body -/
def wa_fx (p : Program) (s : State) (m : MethodId) (c : Code) (meth : Method) (args : Array Value) (cc : ByteArray) (nL : Nat) (own nm : String) (ret : Option FieldType) (D : va_G) (cy : Nat → ClassId) : Prop :=
  CallFix p m c cc nL s args wa_ALL own ∧ wa_SB D cy s ∧ meth.sig.returnType = ret ∧ meth.locks = false ∧ meth.name = nm
theorem wa_en {l : Launch} {y : MethodName} {cc : ByteArray} {maxL : Nat} {ret : Option FieldType} {rm : Room} {av : List Value} {D : va_G} {cy : Nat → ClassId} {Pre : Heap → Prop} {Qc : Array Value → State → Outcome → State → Prop} {mc ms : Nat} {free : Addr → Prop} (hy : plainName y.cls = true) (hl : (lg_sl av).length ≤ maxL)
    (body : ∀ (p : Program) (e : Env) (s : State) (m : MethodId) (args : Array Value) (below : List Frame) (meth : Method) (c : Code), wa_fx p s m c meth args cc maxL y.cls y.name ret D cy → Pre s.heap → ∀ ls : Array Slot, lv_has ls maxL (lv_args 0 av) → W p l e rm s m args below meth c s.heap [] 0 0 (MQ below Qc args s mc ms free) (F0 m 0 ls [])) :
    Met l y [.code y cc maxL ret] rm (wa_pc av D cy Pre) Qc mc ms free := by
  refine Met.ofW (cc := cc) (maxL := maxL) (ret := ret) hy rfl ?_
  intro p e s m args below meth c s₁ B hml hv
  obtain ⟨rfl, hSB, hP⟩ := hv
  have F : wa_fx p s m c meth av.toArray cc maxL y.cls y.name ret D cy := ⟨⟨B.exec, B.bytes, hml, findClass_of_methodNamed B.named, hSB.all _⟩, hSB, B.returns, B.notSynchronized, (name_of_methodNamed B.named B.method).1⟩
  rw [lg_entry_eq]
  exact body p e s m _ below meth c F hP _ (lv_entry av hl)
-- branches
theorem wa_goto {off : Int} {tgt : Nat} (F : wa_fx p s m c meth args cc nL own nm ret D cy) (hdg : decode cc pc = .ok (.goto off, 3)) (ht : (pc : Int) + off = (tgt : Int)) (k : W p l e R s m args below meth c H locs cells slots Q (F0 m tgt ls rest)) : W p l e R s m args below meth c H locs cells slots Q (F0 m pc ls rest) := lv_goto F.1.1 F.1.2.1 hdg ht k
theorem wa_const {n : Int} (F : wa_fx p s m c meth args cc nL own nm ret D cy) (hdg : decode cc pc = .ok (.iconst n, 1)) (k : W p l e R s m args below meth c H locs cells slots Q (F0 m (pc + 1) ls (.int (iI n) :: rest))) : W p l e R s m args below meth c H locs cells slots Q (F0 m pc ls rest) := lv_iconst F.1.1 F.1.2.1 hdg rfl k
theorem wa_bi {n : Int} (F : wa_fx p s m c meth args cc nL own nm ret D cy) (hdg : decode cc pc = .ok (.bipush n, 2)) (hn : (Int8.ofInt n).toInt32 = iI n) (k : W p l e R s m args below meth c H locs cells slots Q (F0 m (pc + 2) ls (.int (iI n) :: rest))) : W p l e R s m args below meth c H locs cells slots Q (F0 m pc ls rest) := lv_bipush F.1.1 F.1.2.1 hdg hn k
theorem wa_si {n : Int} (F : wa_fx p s m c meth args cc nL own nm ret D cy) (hdg : decode cc pc = .ok (.sipush n, 3)) (hn : (Int16.ofInt n).toInt32 = iI n) (k : W p l e R s m args below meth c H locs cells slots Q (F0 m (pc + 3) ls (.int (iI n) :: rest))) : W p l e R s m args below meth c H locs cells slots Q (F0 m pc ls rest) := lv_sipush F.1.1 F.1.2.1 hdg hn k
theorem wa_add {a b : Int} (F : wa_fx p s m c meth args cc nL own nm ret D cy) (hdg : decode cc pc = .ok (.iadd, 1)) (k : W p l e R s m args below meth c H locs cells slots Q (F0 m (pc + 1) ls (.int (iI (a + b)) :: rest))) : W p l e R s m args below meth c H locs cells slots Q (F0 m pc ls (.int (iI b) :: .int (iI a) :: rest)) := lv_iadd F.1.1 F.1.2.1 hdg (by rw [iI_add]; exact k)
theorem wa_sub {a b : Int} (F : wa_fx p s m c meth args cc nL own nm ret D cy) (hdg : decode cc pc = .ok (.isub, 1)) (k : W p l e R s m args below meth c H locs cells slots Q (F0 m (pc + 1) ls (.int (iI (a - b)) :: rest))) : W p l e R s m args below meth c H locs cells slots Q (F0 m pc ls (.int (iI b) :: .int (iI a) :: rest)) := lv_isub F.1.1 F.1.2.1 hdg (by rw [iI_sub]; exact k)
theorem wa_mul {a b : Int} (F : wa_fx p s m c meth args cc nL own nm ret D cy) (hdg : decode cc pc = .ok (.imul, 1)) (k : W p l e R s m args below meth c H locs cells slots Q (F0 m (pc + 1) ls (.int (iI (a * b)) :: rest))) : W p l e R s m args below meth c H locs cells slots Q (F0 m pc ls (.int (iI b) :: .int (iI a) :: rest)) := lv_imul F.1.1 F.1.2.1 hdg (by rw [iI_mul]; exact k)
theorem wa_inc {i nLl k : Nat} {n a b : Int} {lv lv' : List (Nat × Value)} (F : wa_fx p s m c meth args cc nL own nm ret D cy) (hdg : decode cc pc = .ok (.iinc i n, 3)) (h : lv_has ls nLl lv) (hk : lv[k]? = some (i, .int (iI a))) (hb : a + n = b) (hn : i < nLl) (hl : (i, Value.int (iI b)) :: lv.filter (fun q => !(q.1 == i) && !(q.1 + 1 == i && q.2.category == 2)) = lv')
    (kk : ∀ ls' : Array Slot, lv_has ls' nLl lv' → W p l e R s m args below meth c H locs cells slots Q (F0 m (pc + 3) ls' rest)) : W p l e R s m args below meth c H locs cells slots Q (F0 m pc ls rest) :=
  lv_iinc F.1.1 F.1.2.1 hdg h hk (by subst hb; exact iI_add a n) hn hl kk
theorem wa_ic_eq {a b : Int} {off : Int} {tgt : Nat} (F : wa_fx p s m c meth args cc nL own nm ret D cy) (hdg : decode cc pc = .ok (.if_icmp .eq off, 3)) (ht : (pc : Int) + off = (tgt : Int)) (ra : wa_r a) (rb : wa_r b) (kt : a = b → W p l e R s m args below meth c H locs cells slots Q (F0 m tgt ls (rest))) (kf : a ≠ b → W p l e R s m args below meth c H locs cells slots Q (F0 m (pc + 3) ls (rest))) : W p l e R s m args below meth c H locs cells slots Q (F0 m pc ls (.int (iI b) :: .int (iI a) :: rest)) := lv_icmp_eq F.1.1 F.1.2.1 hdg ht (fun h => kt ((iI_eq ra rb).mp h)) (fun h => kf (fun g => h ((iI_eq ra rb).mpr g)))
theorem wa_if_eq {a : Int} {off : Int} {tgt : Nat} (F : wa_fx p s m c meth args cc nL own nm ret D cy) (hdg : decode cc pc = .ok (.ifCond .eq off, 3)) (ht : (pc : Int) + off = (tgt : Int)) (ra : wa_r a) (kt : a = 0 → W p l e R s m args below meth c H locs cells slots Q (F0 m tgt ls (rest))) (kf : a ≠ 0 → W p l e R s m args below meth c H locs cells slots Q (F0 m (pc + 3) ls (rest))) : W p l e R s m args below meth c H locs cells slots Q (F0 m pc ls (.int (iI a) :: rest)) := by
  have wa_r0 : wa_r 0 := ⟨by omega, by omega⟩
  refine lv_if_eq F.1.1 F.1.2.1 hdg ht (fun h => kt ?_) (fun h => kf ?_)
  · rw [iI_0] at h
    exact (iI_eq ra wa_r0).mp h
  · rw [iI_0] at h
    exact fun g => h ((iI_eq ra wa_r0).mpr g)
theorem wa_ic_ne {a b : Int} {off : Int} {tgt : Nat} (F : wa_fx p s m c meth args cc nL own nm ret D cy) (hdg : decode cc pc = .ok (.if_icmp .ne off, 3)) (ht : (pc : Int) + off = (tgt : Int)) (ra : wa_r a) (rb : wa_r b) (kt : a ≠ b → W p l e R s m args below meth c H locs cells slots Q (F0 m tgt ls (rest))) (kf : a = b → W p l e R s m args below meth c H locs cells slots Q (F0 m (pc + 3) ls (rest))) : W p l e R s m args below meth c H locs cells slots Q (F0 m pc ls (.int (iI b) :: .int (iI a) :: rest)) := lv_icmp_ne F.1.1 F.1.2.1 hdg ht (fun h => kt (fun g => h ((iI_eq ra rb).mpr g))) (fun h => kf ((iI_eq ra rb).mp h))
theorem wa_if_ne {a : Int} {off : Int} {tgt : Nat} (F : wa_fx p s m c meth args cc nL own nm ret D cy) (hdg : decode cc pc = .ok (.ifCond .ne off, 3)) (ht : (pc : Int) + off = (tgt : Int)) (ra : wa_r a) (kt : a ≠ 0 → W p l e R s m args below meth c H locs cells slots Q (F0 m tgt ls (rest))) (kf : a = 0 → W p l e R s m args below meth c H locs cells slots Q (F0 m (pc + 3) ls (rest))) : W p l e R s m args below meth c H locs cells slots Q (F0 m pc ls (.int (iI a) :: rest)) := by
  have wa_r0 : wa_r 0 := ⟨by omega, by omega⟩
  refine lv_if_ne F.1.1 F.1.2.1 hdg ht (fun h => kt ?_) (fun h => kf ?_)
  · rw [iI_0] at h
    exact fun g => h ((iI_eq ra wa_r0).mpr g)
  · rw [iI_0] at h
    exact (iI_eq ra wa_r0).mp h
theorem wa_ic_lt {a b : Int} {off : Int} {tgt : Nat} (F : wa_fx p s m c meth args cc nL own nm ret D cy) (hdg : decode cc pc = .ok (.if_icmp .lt off, 3)) (ht : (pc : Int) + off = (tgt : Int)) (ra : wa_r a) (rb : wa_r b) (kt : a < b → W p l e R s m args below meth c H locs cells slots Q (F0 m tgt ls (rest))) (kf : b ≤ a → W p l e R s m args below meth c H locs cells slots Q (F0 m (pc + 3) ls (rest))) : W p l e R s m args below meth c H locs cells slots Q (F0 m pc ls (.int (iI b) :: .int (iI a) :: rest)) := lv_icmp_lt F.1.1 F.1.2.1 hdg ht (fun h => kt ((iI_lt ra rb).mp h)) (fun h => kf (Int.not_lt.mp (fun g => h ((iI_lt ra rb).mpr g))))
theorem wa_if_lt {a : Int} {off : Int} {tgt : Nat} (F : wa_fx p s m c meth args cc nL own nm ret D cy) (hdg : decode cc pc = .ok (.ifCond .lt off, 3)) (ht : (pc : Int) + off = (tgt : Int)) (ra : wa_r a) (kt : a < 0 → W p l e R s m args below meth c H locs cells slots Q (F0 m tgt ls (rest))) (kf : 0 ≤ a → W p l e R s m args below meth c H locs cells slots Q (F0 m (pc + 3) ls (rest))) : W p l e R s m args below meth c H locs cells slots Q (F0 m pc ls (.int (iI a) :: rest)) := by
  have wa_r0 : wa_r 0 := ⟨by omega, by omega⟩
  refine lv_if_lt F.1.1 F.1.2.1 hdg ht (fun h => kt ?_) (fun h => kf ?_)
  · rw [iI_0] at h
    exact (iI_lt ra wa_r0).mp h
  · rw [iI_0] at h
    exact Int.not_lt.mp (fun g => h ((iI_lt ra wa_r0).mpr g))
theorem wa_ic_ge {a b : Int} {off : Int} {tgt : Nat} (F : wa_fx p s m c meth args cc nL own nm ret D cy) (hdg : decode cc pc = .ok (.if_icmp .ge off, 3)) (ht : (pc : Int) + off = (tgt : Int)) (ra : wa_r a) (rb : wa_r b) (kt : b ≤ a → W p l e R s m args below meth c H locs cells slots Q (F0 m tgt ls (rest))) (kf : a < b → W p l e R s m args below meth c H locs cells slots Q (F0 m (pc + 3) ls (rest))) : W p l e R s m args below meth c H locs cells slots Q (F0 m pc ls (.int (iI b) :: .int (iI a) :: rest)) := lv_icmp_ge F.1.1 F.1.2.1 hdg ht (fun h => kt ((iI_le rb ra).mp h)) (fun h => kf (Int.not_le.mp (fun g => h ((iI_le rb ra).mpr g))))
theorem wa_if_ge {a : Int} {off : Int} {tgt : Nat} (F : wa_fx p s m c meth args cc nL own nm ret D cy) (hdg : decode cc pc = .ok (.ifCond .ge off, 3)) (ht : (pc : Int) + off = (tgt : Int)) (ra : wa_r a) (kt : 0 ≤ a → W p l e R s m args below meth c H locs cells slots Q (F0 m tgt ls (rest))) (kf : a < 0 → W p l e R s m args below meth c H locs cells slots Q (F0 m (pc + 3) ls (rest))) : W p l e R s m args below meth c H locs cells slots Q (F0 m pc ls (.int (iI a) :: rest)) := by
  have wa_r0 : wa_r 0 := ⟨by omega, by omega⟩
  refine lv_if_ge F.1.1 F.1.2.1 hdg ht (fun h => kt ?_) (fun h => kf ?_)
  · rw [iI_0] at h
    exact (iI_le wa_r0 ra).mp h
  · rw [iI_0] at h
    exact Int.not_le.mp (fun g => h ((iI_le wa_r0 ra).mpr g))
theorem wa_ic_gt {a b : Int} {off : Int} {tgt : Nat} (F : wa_fx p s m c meth args cc nL own nm ret D cy) (hdg : decode cc pc = .ok (.if_icmp .gt off, 3)) (ht : (pc : Int) + off = (tgt : Int)) (ra : wa_r a) (rb : wa_r b) (kt : b < a → W p l e R s m args below meth c H locs cells slots Q (F0 m tgt ls (rest))) (kf : a ≤ b → W p l e R s m args below meth c H locs cells slots Q (F0 m (pc + 3) ls (rest))) : W p l e R s m args below meth c H locs cells slots Q (F0 m pc ls (.int (iI b) :: .int (iI a) :: rest)) := lv_icmp_gt F.1.1 F.1.2.1 hdg ht (fun h => kt ((iI_lt rb ra).mp h)) (fun h => kf (Int.not_lt.mp (fun g => h ((iI_lt rb ra).mpr g))))
theorem wa_if_gt {a : Int} {off : Int} {tgt : Nat} (F : wa_fx p s m c meth args cc nL own nm ret D cy) (hdg : decode cc pc = .ok (.ifCond .gt off, 3)) (ht : (pc : Int) + off = (tgt : Int)) (ra : wa_r a) (kt : 0 < a → W p l e R s m args below meth c H locs cells slots Q (F0 m tgt ls (rest))) (kf : a ≤ 0 → W p l e R s m args below meth c H locs cells slots Q (F0 m (pc + 3) ls (rest))) : W p l e R s m args below meth c H locs cells slots Q (F0 m pc ls (.int (iI a) :: rest)) := by
  have wa_r0 : wa_r 0 := ⟨by omega, by omega⟩
  refine lv_if_gt F.1.1 F.1.2.1 hdg ht (fun h => kt ?_) (fun h => kf ?_)
  · rw [iI_0] at h
    exact (iI_lt wa_r0 ra).mp h
  · rw [iI_0] at h
    exact Int.not_lt.mp (fun g => h ((iI_lt wa_r0 ra).mpr g))
theorem wa_ic_le {a b : Int} {off : Int} {tgt : Nat} (F : wa_fx p s m c meth args cc nL own nm ret D cy) (hdg : decode cc pc = .ok (.if_icmp .le off, 3)) (ht : (pc : Int) + off = (tgt : Int)) (ra : wa_r a) (rb : wa_r b) (kt : a ≤ b → W p l e R s m args below meth c H locs cells slots Q (F0 m tgt ls (rest))) (kf : b < a → W p l e R s m args below meth c H locs cells slots Q (F0 m (pc + 3) ls (rest))) : W p l e R s m args below meth c H locs cells slots Q (F0 m pc ls (.int (iI b) :: .int (iI a) :: rest)) := lv_icmp_le F.1.1 F.1.2.1 hdg ht (fun h => kt ((iI_le ra rb).mp h)) (fun h => kf (Int.not_le.mp (fun g => h ((iI_le ra rb).mpr g))))
theorem wa_if_le {a : Int} {off : Int} {tgt : Nat} (F : wa_fx p s m c meth args cc nL own nm ret D cy) (hdg : decode cc pc = .ok (.ifCond .le off, 3)) (ht : (pc : Int) + off = (tgt : Int)) (ra : wa_r a) (kt : a ≤ 0 → W p l e R s m args below meth c H locs cells slots Q (F0 m tgt ls (rest))) (kf : 0 < a → W p l e R s m args below meth c H locs cells slots Q (F0 m (pc + 3) ls (rest))) : W p l e R s m args below meth c H locs cells slots Q (F0 m pc ls (.int (iI a) :: rest)) := by
  have wa_r0 : wa_r 0 := ⟨by omega, by omega⟩
  refine lv_if_le F.1.1 F.1.2.1 hdg ht (fun h => kt ?_) (fun h => kf ?_)
  · rw [iI_0] at h
    exact (iI_le ra wa_r0).mp h
  · rw [iI_0] at h
    exact Int.not_le.mp (fun g => h ((iI_le ra wa_r0).mpr g))
-- values that are references or null, loaded and stored
theorem wa_ldq_n {kf : Fin 4} {i : Nat} {r : Option Nat} (F : wa_fx p s m c meth args cc nL own nm ret D cy) (hdg : decode cc pc = .ok (.aload_n kf, 1)) (hi : (kf : Nat) = i) (hl : ls[i]? = some (.val (va_rf r))) (k : W p l e R s m args below meth c H locs cells slots Q (F0 m (pc + 1) ls (va_rf r :: rest))) : W p l e R s m args below meth c H locs cells slots Q (F0 m pc ls rest) := by
  cases r with
  | none => exact lv_aload_nN F.1.1 F.1.2.1 hdg hi hl k
  | some a => exact lv_aload_n F.1.1 F.1.2.1 hdg hi hl k
theorem wa_ldq {i : Nat} {r : Option Nat} (F : wa_fx p s m c meth args cc nL own nm ret D cy) (hdg : decode cc pc = .ok (.aload i, 2)) (hl : ls[i]? = some (.val (va_rf r))) (k : W p l e R s m args below meth c H locs cells slots Q (F0 m (pc + 2) ls (va_rf r :: rest))) : W p l e R s m args below meth c H locs cells slots Q (F0 m pc ls rest) := by
  cases r with
  | none => exact lv_aloadN F.1.1 F.1.2.1 hdg hl k
  | some a => exact lv_aload F.1.1 F.1.2.1 hdg hl k
theorem wa_stq_n {kf : Fin 4} {i nl : Nat} {r : Option Nat} {lv lv' : List (Nat × Value)} (F : wa_fx p s m c meth args cc nL own nm ret D cy) (hdg : decode cc pc = .ok (.astore_n kf, 1)) (hi : (kf : Nat) = i) (h : lv_has ls nl lv) (hn : i < nl) (hl : (i, va_rf r) :: lv.filter (fun q => !(q.1 == i) && !(q.1 + 1 == i && q.2.category == 2)) = lv')
    (kk : ∀ ls' : Array Slot, lv_has ls' nl lv' → W p l e R s m args below meth c H locs cells slots Q (F0 m (pc + 1) ls' rest)) : W p l e R s m args below meth c H locs cells slots Q (F0 m pc ls (va_rf r :: rest)) := by
  cases r with
  | none => exact lv_astore_nN F.1.1 F.1.2.1 hdg hi h hn hl kk
  | some a => exact lv_astore_n F.1.1 F.1.2.1 hdg hi h hn hl kk
theorem wa_stq {i nl : Nat} {r : Option Nat} {lv lv' : List (Nat × Value)} (F : wa_fx p s m c meth args cc nL own nm ret D cy) (hdg : decode cc pc = .ok (.astore i, 2)) (h : lv_has ls nl lv) (hn : i < nl) (hl : (i, va_rf r) :: lv.filter (fun q => !(q.1 == i) && !(q.1 + 1 == i && q.2.category == 2)) = lv')
    (kk : ∀ ls' : Array Slot, lv_has ls' nl lv' → W p l e R s m args below meth c H locs cells slots Q (F0 m (pc + 2) ls' rest)) : W p l e R s m args below meth c H locs cells slots Q (F0 m pc ls (va_rf r :: rest)) := by
  cases r with
  | none => exact lv_astoreN F.1.1 F.1.2.1 hdg h hn hl kk
  | some a => exact lv_astore F.1.1 F.1.2.1 hdg h hn hl kk
theorem wa_ifnull {r : Option Nat} {off : Int} {tgt : Nat} (F : wa_fx p s m c meth args cc nL own nm ret D cy) (hdg : decode cc pc = .ok (.ifnull off, 3)) (ht : (pc : Int) + off = (tgt : Int)) (kt : r = none → W p l e R s m args below meth c H locs cells slots Q (F0 m tgt ls rest)) (kf : ∀ a : Nat, r = some a → W p l e R s m args below meth c H locs cells slots Q (F0 m (pc + 3) ls rest)) : W p l e R s m args below meth c H locs cells slots Q (F0 m pc ls (va_rf r :: rest)) := by
  cases r with
  | none => exact lv_ifnullN F.1.1 F.1.2.1 hdg ht (kt rfl)
  | some a => exact lv_ifnull F.1.1 F.1.2.1 hdg (kf a rfl)
theorem wa_ifnonnull {r : Option Nat} {off : Int} {tgt : Nat} (F : wa_fx p s m c meth args cc nL own nm ret D cy) (hdg : decode cc pc = .ok (.ifnonnull off, 3)) (ht : (pc : Int) + off = (tgt : Int)) (kt : ∀ a : Nat, r = some a → W p l e R s m args below meth c H locs cells slots Q (F0 m tgt ls rest)) (kf : r = none → W p l e R s m args below meth c H locs cells slots Q (F0 m (pc + 3) ls rest)) : W p l e R s m args below meth c H locs cells slots Q (F0 m pc ls (va_rf r :: rest)) := by
  cases r with
  | none => exact lv_ifnonnullN F.1.1 F.1.2.1 hdg (kf rfl)
  | some a => exact lv_ifnonnull F.1.1 F.1.2.1 hdg ht (kt a rfl)
-- fields
theorem wa_get {ref Cn : String} {T : u_T} {N ci index kd i : Nat} (F : wa_fx p s m c meth args cc nL own nm ret D cy) (hw : wa_wd D ad C H) {fs : List Value} (he : C kd i = some (.inr (ci, fs))) (hin : ∀ w ∈ u_ws Cn T N, w ∈ wa_ALL) (hc : vwCl[ci]? = some (Cn, T, N)) (k : Nat) (hk : k < N) (hlink : Cond.fieldLink own index ref (T k).2.1 (T k).2.2.1 ∈ wa_ALL) (hsame : (T k).1 = ref) {v : Value} (hv : fs[k]? = some v) (hdg : decode cc pc = .ok (.getfield index, 3))
    (kk : W p l e R s m args below meth c H locs cells slots Q (F0 m (pc + 3) ls (v :: rest))) : W p l e R s m args below meth c H locs cells slots Q (F0 m pc ls (.ref (ad kd i) :: rest)) :=
  va_get F.1.1 F.1.2.1 F.1.2.2.2.2 hin F.1.2.2.2.1 F.2.1.2.2 (wa_one hw he) 0 rfl hc k hk (F.1.2.2.2.2 _ hlink) (fun x h => by rw [hsame] at h; exact h) hv hdg kk
theorem wa_getN {ref Cn host : String} {T : u_T} {N ci index kd i : Nat} (F : wa_fx p s m c meth args cc nL own nm ret D cy) (hw : wa_wd D ad C H) {fs : List Value} (he : C kd i = some (.inr (ci, fs))) (hin : ∀ w ∈ u_ws Cn T N, w ∈ wa_ALL) (hc : vwCl[ci]? = some (Cn, T, N)) (k : Nat) (hk : k < N) (hlink : Cond.fieldLinkNest own index ref (T k).2.1 (T k).2.2.1 host ∈ wa_NST) (hsame : (T k).1 = ref) {v : Value} (hv : fs[k]? = some v) (hdg : decode cc pc = .ok (.getfield index, 3))
    (kk : W p l e R s m args below meth c H locs cells slots Q (F0 m (pc + 3) ls (v :: rest))) : W p l e R s m args below meth c H locs cells slots Q (F0 m pc ls (.ref (ad kd i) :: rest)) :=
  va_getN F.1.1 F.1.2.1 F.1.2.2.2.2 hin F.1.2.2.2.1 F.2.1.2.2 (wa_one hw he) 0 rfl hc k hk (va_Nw.use rfl (F.2.1.2.1 _ hlink)) (fun x h => by rw [hsame] at h; exact h) hv hdg kk
theorem wa_put {ref Cn : String} {T : u_T} {N ci index kd i : Nat} (F : wa_fx p s m c meth args cc nL own nm ret D cy) (hw : wa_wd D ad C H) (hj : wa_wj A ad C) (hS0 : va_S A H0 H locs) {fs : List Value} (he : C kd i = some (.inr (ci, fs))) (hin : ∀ w ∈ u_ws Cn T N, w ∈ wa_ALL) (ty0 : Nat → FieldType) (hty : ∀ k, k < N → parseFieldDescriptor (T k).2.2.1 = some (ty0 k)) (hnm : ∀ a, a < N → ∀ b, b < N → a ≠ b → (T a).2.1 ≠ (T b).2.1) (hc : vwCl[ci]? = some (Cn, T, N)) (k : Nat) (hk : k < N) (hlink : Cond.fieldLink own index ref (T k).2.1 (T k).2.2.1 ∈ wa_ALL) (hsame : (T k).1 = ref) (hfin : (T k).2.2.2 = false) {v : Value} (hn : narrow (ty0 k) v = v) (hfit : fits (ty0 k) v = true) (hl : k < fs.length)
    (hdg : decode cc pc = .ok (.putfield index, 3)) (kk : ∀ (H1 : Heap) (locs1 : List Loc), wa_wd D ad (wa_up C kd i (.inr (ci, fs.set k v))) H1 → va_S A H0 H1 locs1 → W p l e R s m args below meth c H1 locs1 cells slots Q (F0 m (pc + 3) ls rest)) : W p l e R s m args below meth c H locs cells slots Q (F0 m pc ls (v :: .ref (ad kd i) :: rest)) := by
  have hts := F.1.2.2.2.2
  have hown := F.1.2.2.2.1
  have hK := F.2.1.2.2
  have hap := va_apart (own := own) hts hin ty0 hty hnm hK hc
  have hat := hw kd i _ he
  obtain ⟨r, h1, cell, q1, q2, q3, q4⟩ := hat
  have hr : r = (Cn, T, N) := Option.some.inj (h1.symm.trans hc)
  subst hr
  obtain ⟨hS, hfc, kC, hkC, hkind⟩ := hK.1 ci _ hc
  obtain ⟨cf, kf, fi, f, hi, hsl⟩ := hS k hk
  have hlay := hts _ (hin _ (u_in_lay hk))
  unfold u_lay at hlay
  rw [if_neg (by rw [hfin]; decide)] at hlay
  have hst := (u_facts hfc hkC (u_lays hts hin hk) hi).1
  have h6 := u_store hfc hkC hkind hlay hi (hty k hk) hn hfit
  have hi2 : s.fieldFound? ref (T k).2.1 (T k).2.2.1 = some (cf, kf, fi, f) := by rw [← hsame]; exact hi
  refine W.putK F.1.1 F.1.2.1 (f := f) ⟨hown, hts _ hlink, ⟨_, _, _, hi2⟩, hst⟩ (by rw [q2]; exact h6) q1 q3 (by rw [hsl]; exact k2_hasslot (q4 k hk)) rfl rfl hdg fun H' e1 e2 e3 => ?_
  rw [hsl] at e1 ⊢
  exact kk H' _ (hw.put hj he ⟨_, hc, t_OB.to (V := updV (vp_V fs) k v) ⟨_, e1, q2, q3, t_set q4 hap hk v⟩ (fun j _ => vp_updV_set hl v j)⟩ e3) (hS0.put e2 e3 (hj.2 _ _ _ he))
theorem wa_putN {ref Cn host : String} {T : u_T} {N ci index kd i : Nat} (F : wa_fx p s m c meth args cc nL own nm ret D cy) (hw : wa_wd D ad C H) (hj : wa_wj A ad C) (hS0 : va_S A H0 H locs) {fs : List Value} (he : C kd i = some (.inr (ci, fs))) (hin : ∀ w ∈ u_ws Cn T N, w ∈ wa_ALL) (ty0 : Nat → FieldType) (hty : ∀ k, k < N → parseFieldDescriptor (T k).2.2.1 = some (ty0 k)) (hnm : ∀ a, a < N → ∀ b, b < N → a ≠ b → (T a).2.1 ≠ (T b).2.1) (hc : vwCl[ci]? = some (Cn, T, N)) (k : Nat) (hk : k < N) (hlink : Cond.fieldLinkNest own index ref (T k).2.1 (T k).2.2.1 host ∈ wa_NST) (hsame : (T k).1 = ref) (hfin : (T k).2.2.2 = false) {v : Value} (hn : narrow (ty0 k) v = v) (hfit : fits (ty0 k) v = true) (hl : k < fs.length)
    (hdg : decode cc pc = .ok (.putfield index, 3)) (kk : ∀ (H1 : Heap) (locs1 : List Loc), wa_wd D ad (wa_up C kd i (.inr (ci, fs.set k v))) H1 → va_S A H0 H1 locs1 → W p l e R s m args below meth c H1 locs1 cells slots Q (F0 m (pc + 3) ls rest)) : W p l e R s m args below meth c H locs cells slots Q (F0 m pc ls (v :: .ref (ad kd i) :: rest)) := by
  have hts := F.1.2.2.2.2
  have hown := F.1.2.2.2.1
  have hK := F.2.1.2.2
  have hap := va_apart (own := own) hts hin ty0 hty hnm hK hc
  have hat := hw kd i _ he
  obtain ⟨r, h1, cell, q1, q2, q3, q4⟩ := hat
  have hr : r = (Cn, T, N) := Option.some.inj (h1.symm.trans hc)
  subst hr
  obtain ⟨hS, hfc, kC, hkC, hkind⟩ := hK.1 ci _ hc
  obtain ⟨cf, kf, fi, f, hi, hsl⟩ := hS k hk
  have hlay := hts _ (hin _ (u_in_lay hk))
  unfold u_lay at hlay
  rw [if_neg (by rw [hfin]; decide)] at hlay
  have hst := (u_facts hfc hkC (u_lays hts hin hk) hi).1
  have h6 := u_store hfc hkC hkind hlay hi (hty k hk) hn hfit
  have hi2 : s.fieldFound? ref (T k).2.1 (T k).2.2.1 = some (cf, kf, fi, f) := by rw [← hsame]; exact hi
  refine va_WputK F.1.1 F.1.2.1 (f := f) hown (va_Nw.use rfl (F.2.1.2.1 _ hlink)) hi2 hst (by rw [q2]; exact h6) q1 q3 (by rw [hsl]; exact k2_hasslot (q4 k hk)) rfl rfl hdg fun H' e1 e2 e3 => ?_
  rw [hsl] at e1 ⊢
  exact kk H' _ (hw.put hj he ⟨_, hc, t_OB.to (V := updV (vp_V fs) k v) ⟨_, e1, q2, q3, t_set q4 hap hk v⟩ (fun j _ => vp_updV_set hl v j)⟩ e3) (hS0.put e2 e3 (hj.2 _ _ _ he))
theorem wa_putF {ref Cn : String} {T : u_T} {N ci index kd i : Nat} (F : wa_fx p s m c meth args cc nL own nm ret D cy) (hin2 : nm = "<init>") (hw : wa_wd D ad C H) (hj : wa_wj A ad C) (hS0 : va_S A H0 H locs) {fs : List Value} (he : C kd i = some (.inr (ci, fs))) (hin : ∀ w ∈ u_ws Cn T N, w ∈ wa_ALL) (ty0 : Nat → FieldType) (hty : ∀ k, k < N → parseFieldDescriptor (T k).2.2.1 = some (ty0 k)) (hnm : ∀ a, a < N → ∀ b, b < N → a ≠ b → (T a).2.1 ≠ (T b).2.1) (hc : vwCl[ci]? = some (Cn, T, N)) (k : Nat) (hk : k < N) (hlink : Cond.fieldLink own index ref (T k).2.1 (T k).2.2.1 ∈ wa_ALL) (hsame : (T k).1 = ref) (hdecl : (T k).1 = own) (hfin : (T k).2.2.2 = true) {v : Value} (hn : narrow (ty0 k) v = v) (hfit : fits (ty0 k) v = true) (hl : k < fs.length)
    (hdg : decode cc pc = .ok (.putfield index, 3)) (kk : ∀ (H1 : Heap) (locs1 : List Loc), wa_wd D ad (wa_up C kd i (.inr (ci, fs.set k v))) H1 → va_S A H0 H1 locs1 → W p l e R s m args below meth c H1 locs1 cells slots Q (F0 m (pc + 3) ls rest)) : W p l e R s m args below meth c H locs cells slots Q (F0 m pc ls (v :: .ref (ad kd i) :: rest)) := by
  have hts := F.1.2.2.2.2
  have hown := F.1.2.2.2.1
  have hK := F.2.1.2.2
  have hap := va_apart (own := own) hts hin ty0 hty hnm hK hc
  have hat := hw kd i _ he
  obtain ⟨r, h1, cell, q1, q2, q3, q4⟩ := hat
  have hr : r = (Cn, T, N) := Option.some.inj (h1.symm.trans hc)
  subst hr
  obtain ⟨hS, hfc, kC, hkC, hkind⟩ := hK.1 ci _ hc
  obtain ⟨cf, kf, fi, f, hi, hsl⟩ := hS k hk
  have hlay := hts _ (hin _ (u_in_lay hk))
  unfold u_lay at hlay
  rw [if_pos hfin] at hlay
  have hst := (u_facts hfc hkC (u_lays hts hin hk) hi).1
  have hcf : m.cls = cf := by
    obtain ⟨_, _, c', _, _, _, -, -, hf', -, -, -, hown2, -⟩ := Cond.laysFinal_spec hlay
    have e1 : c' = cf := by have := hi.symm.trans hf'; simp at this; exact this.1.symm
    rw [hdecl] at hown2
    rw [← e1]; exact Option.some.inj (hown.symm.trans hown2)
  have h6 := u_fits hfc hkC hkind (Or.inr hlay) hi (hty k hk) hn hfit
  have hi2 : s.fieldFound? ref (T k).2.1 (T k).2.2.1 = some (cf, kf, fi, f) := by rw [← hsame]; exact hi
  refine W.putFinK F.1.1 F.1.2.1 hown (hts _ hlink) hi2 hst hcf (F.2.2.2.2.trans hin2) (by rw [q2]; exact h6) q1 q3 (by rw [hsl]; exact k2_hasslot (q4 k hk)) rfl rfl hdg fun H' e1 e2 e3 => ?_
  rw [hsl] at e1 ⊢
  exact kk H' _ (hw.put hj he ⟨_, hc, t_OB.to (V := updV (vp_V fs) k v) ⟨_, e1, q2, q3, t_set q4 hap hk v⟩ (fun j _ => vp_updV_set hl v j)⟩ e3) (hS0.put e2 e3 (hj.2 _ _ _ he))
-- arrays
/-- an array of ints, or of booleans -/
def wa_aI (cA : ClassId) (n : Nat) (g : Nat → Int) : va_E := .inl (cA, n, .inl (fun j => iI (g j)))
/-- an array of references -/
def wa_aR (cA : ClassId) (n : Nat) (g : Nat → Option Nat) : va_E := .inl (cA, n, .inr (.inr (.inr (.inr g))))
/-- an array of longs -/
def wa_aL (cA : ClassId) (n : Nat) (g : Nat → Int64) : va_E := .inl (cA, n, .inr (.inl g))
def wa_g (g : Nat → Int) (k : Nat) (v : Int) : Nat → Int := fun j => if j = k then v else g j
theorem wa_iald {kd i n : Nat} {g : Nat → Int} (F : wa_fx p s m c meth args cc nL own nm ret D cy) (hw : wa_wd D ad C H) (he : C kd i = some (wa_aI (cy 0) n g)) {z : Int} (j : Nat) (hz : z = (j : Int)) (hj : j < n) (hn : n < 2147483648) (hdg : decode cc pc = .ok (.iaload, 1))
    (kk : W p l e R s m args below meth c H locs cells slots Q (F0 m (pc + 1) ls (.int (iI (g j)) :: rest))) : W p l e R s m args below meth c H locs cells slots Q (F0 m pc ls (.int (iI z) :: .ref (ad kd i) :: rest)) :=
  va_iald F.1.1 F.1.2.1 F.2.1.2.2 (wa_one hw he) 0 0 rfl rfl (iI_in hz hj hn) hdg (by rw [iI_cl hz (by omega)]; exact kk)
theorem wa_zald {kd i n : Nat} {g : Nat → Int} (F : wa_fx p s m c meth args cc nL own nm ret D cy) (hw : wa_wd D ad C H) (he : C kd i = some (wa_aI (cy 1) n g)) {z : Int} (j : Nat) (hz : z = (j : Int)) (hj : j < n) (hn : n < 2147483648) (hdg : decode cc pc = .ok (.baload, 1))
    (kk : W p l e R s m args below meth c H locs cells slots Q (F0 m (pc + 1) ls (.int (iI (g j)) :: rest))) : W p l e R s m args below meth c H locs cells slots Q (F0 m pc ls (.int (iI z) :: .ref (ad kd i) :: rest)) :=
  va_zald F.1.1 F.1.2.1 F.2.1.2.2 (wa_one hw he) 0 1 rfl rfl (iI_in hz hj hn) hdg (by rw [iI_cl hz (by omega)]; exact kk)
theorem wa_lald {kd i n : Nat} {g : Nat → Int64} (F : wa_fx p s m c meth args cc nL own nm ret D cy) (hw : wa_wd D ad C H) (he : C kd i = some (wa_aL (cy 5) n g)) {z : Int} (j : Nat) (hz : z = (j : Int)) (hj : j < n) (hn : n < 2147483648) (hdg : decode cc pc = .ok (.laload, 1))
    (kk : W p l e R s m args below meth c H locs cells slots Q (F0 m (pc + 1) ls (.long (g j) :: rest))) : W p l e R s m args below meth c H locs cells slots Q (F0 m pc ls (.int (iI z) :: .ref (ad kd i) :: rest)) :=
  va_lald F.1.1 F.1.2.1 F.2.1.2.2 (wa_one hw he) 0 5 rfl rfl (iI_in hz hj hn) hdg (by rw [iI_cl hz (by omega)]; exact kk)
theorem wa_aald {kd i n t0 : Nat} {g : Nat → Option Nat} {cA : ClassId} {Cn : String} (F : wa_fx p s m c meth args cc nL own nm ret D cy) (hw : wa_wd D ad C H) (he : C kd i = some (wa_aR cA n g)) (ht : (wa_ty cy)[t0]? = some (cA, .object Cn)) {z : Int} (j : Nat) (hz : z = (j : Int)) (hj : j < n) (hn : n < 2147483648) (hdg : decode cc pc = .ok (.aaload, 1))
    (kk : W p l e R s m args below meth c H locs cells slots Q (F0 m (pc + 1) ls (va_rf (g j) :: rest))) : W p l e R s m args below meth c H locs cells slots Q (F0 m pc ls (.int (iI z) :: .ref (ad kd i) :: rest)) :=
  va_aldq F.1.1 F.1.2.1 F.2.1.2.2 (wa_one hw he) 0 t0 rfl ht (iI_in hz hj hn) hdg (by rw [iI_cl hz (by omega)]; exact kk)
theorem wa_alen {kd i t0 : Nat} {cA : ClassId} {x : vp_A} {ty : FieldType} (F : wa_fx p s m c meth args cc nL own nm ret D cy) (hw : wa_wd D ad C H) (he : C kd i = some (.inl (cA, x))) (ht : (wa_ty cy)[t0]? = some (cA, ty)) (n : Nat) (hn : x.1 = n) (hn2 : n < 2147483648) (hdg : decode cc pc = .ok (.arraylength, 1))
    (kk : W p l e R s m args below meth c H locs cells slots Q (F0 m (pc + 1) ls (.int (iI (n : Int)) :: rest))) : W p l e R s m args below meth c H locs cells slots Q (F0 m pc ls (.ref (ad kd i) :: rest)) :=
  va_alen F.1.1 F.1.2.1 F.2.1.2.2 (wa_one hw he) 0 t0 rfl ht (by rw [hn]; exact iI_len n hn2) hdg kk
theorem wa_iast {kd i n : Nat} {g : Nat → Int} (F : wa_fx p s m c meth args cc nL own nm ret D cy) (hw : wa_wd D ad C H) (hj : wa_wj A ad C) (hS : va_S A H0 H locs) (he : C kd i = some (wa_aI (cy 0) n g)) {z v : Int} (j : Nat) (hz : z = (j : Int)) (hjn : j < n) (hn : n < 2147483648) (hdg : decode cc pc = .ok (.iastore, 1))
    (kk : ∀ (H1 : Heap) (locs1 : List Loc), wa_wd D ad (wa_up C kd i (wa_aI (cy 0) n (wa_g g j v))) H1 → va_S A H0 H1 locs1 → W p l e R s m args below meth c H1 locs1 cells slots Q (F0 m (pc + 1) ls rest)) : W p l e R s m args below meth c H locs cells slots Q (F0 m pc ls (.int (iI v) :: .int (iI z) :: .ref (ad kd i) :: rest)) := by
  have hin := iI_in hz hjn hn
  refine W.iast F.1.1 F.1.2.1 (wa_one hw he 0 _ rfl) ((F.2.1.2.2.2 0 _ rfl).1 n (fun j => .int (iI (g j)))) (fun q => by cases q) (by show ¬ (iI z < 0 ∨ (arrV _ _ _).slots.size ≤ _); rw [arrV_size]; exact hin) rfl rfl hdg fun H1 e z2 oq => ?_
  refine kk H1 _ (hw.put hj he ?_ oq) (hS.put z2 oq (hj.2 _ _ _ he))
  show H1[ad kd i]? = some (vp_cell _ _)
  rw [e, vp_cell_i, vp_cell_i, arrV_store, iI_cl hz (by omega)]
  congr 2
  funext q
  by_cases hq : q = j
  · subst hq; simp [updV, wa_g]
  · simp [updV, wa_g, hq]
theorem wa_zast {kd i n : Nat} {g : Nat → Int} (F : wa_fx p s m c meth args cc nL own nm ret D cy) (hw : wa_wd D ad C H) (hj : wa_wj A ad C) (hS : va_S A H0 H locs) (he : C kd i = some (wa_aI (cy 1) n g)) {z v : Int} (hv : v = 0 ∨ v = 1) (j : Nat) (hz : z = (j : Int)) (hjn : j < n) (hn : n < 2147483648) (hdg : decode cc pc = .ok (.bastore, 1))
    (kk : ∀ (H1 : Heap) (locs1 : List Loc), wa_wd D ad (wa_up C kd i (wa_aI (cy 1) n (wa_g g j v))) H1 → va_S A H0 H1 locs1 → W p l e R s m args below meth c H1 locs1 cells slots Q (F0 m (pc + 1) ls rest)) : W p l e R s m args below meth c H locs cells slots Q (F0 m pc ls (.int (iI v) :: .int (iI z) :: .ref (ad kd i) :: rest)) := by
  have hin := iI_in hz hjn hn
  have hnv : narrow .boolean (.int (iI v)) = .int (iI v) := by rcases hv with rfl | rfl <;> decide +kernel
  refine W.zast F.1.1 F.1.2.1 (wa_one hw he 0 _ rfl) ((F.2.1.2.2.2 1 _ rfl).1 n (fun j => .int (iI (g j)))) (fun q => by cases q) (by show ¬ (iI z < 0 ∨ (arrV _ _ _).slots.size ≤ _); rw [arrV_size]; exact hin) rfl rfl hdg fun H1 e z2 oq => ?_
  refine kk H1 _ (hw.put hj he ?_ oq) (hS.put z2 oq (hj.2 _ _ _ he))
  show H1[ad kd i]? = some (vp_cell _ _)
  rw [e, hnv, vp_cell_i, vp_cell_i, arrV_store, iI_cl hz (by omega)]
  congr 2
  funext q
  by_cases hq : q = j
  · subst hq; simp [updV, wa_g]
  · simp [updV, wa_g, hq]
end WAR
end
section
/-! MY ROWS: calls and ends -/
section WAC
variable {p : Program} {l : Launch} {e : Env} {R : Room} {s : State} {m : MethodId} {args : Array Value} {below : List Frame} {meth : Method} {c : Code} {H : Heap} {locs : List Loc} {cells slots : Nat} {Q : State → Prop}
variable {cc : ByteArray} {pc : Nat} {ls : Array Slot} {rest st0 : List Value} {D : va_G} {A : Nat → Prop} {H0 : Heap} {cy : Nat → ClassId} {ad : Nat → Nat → Nat} {C : wa_C} {nL : Nat} {own nm : String} {ret : Option FieldType}
variable {y : MethodName} {bytes : ByteArray} {maxL n index : Nat} {rety : Option FieldType} {rm : Room} {Pre : Heap → Prop} {Qc : Array Value → State → Outcome → State → Prop} {free : Addr → Prop} {As : List Value} {mc ms : Nat}
/-- a call's words -/
theorem wa_wV {own Cn : String} {idx : Nat} {y : MethodName} {w : Cond} (h1 : Cond.methodLink own idx y ∈ wa_ALL) (h2 : Cond.instanceMethod y ∈ wa_ALL) (h3 : Cond.selects Cn y y ∈ wa_ALL) (h4 : Cond.initialized Cn ∈ wa_ALL) (h5 : w ∈ wa_ALL) : GoodIn wa_ALL (wsV own idx Cn y [w]) := by
  intro x hx
  have : x ∈ wa_ALL := by
    simp only [wsV, List.mem_append, List.mem_cons, List.not_mem_nil, or_false] at hx
    rcases hx with (rfl | rfl | rfl | rfl) | rfl <;> assumption
  exact wa_good x this
theorem wa_wS {own : String} {idx : Nat} {y : MethodName} {w : Cond} (h1 : Cond.methodLink own idx y ∈ wa_ALL) (h2 : Cond.static y ∈ wa_ALL) (h4 : Cond.initialized own ∈ wa_ALL) (h5 : w ∈ wa_ALL) : GoodIn wa_ALL (wsS own idx y [w]) := by
  intro x hx
  have : x ∈ wa_ALL := by
    simp only [wsS, List.mem_append, List.mem_cons, List.not_mem_nil, or_false] at hx
    rcases hx with (rfl | rfl | rfl) | rfl <;> assumption
  exact wa_good x this
theorem wa_w1 {w : Cond} (h5 : w ∈ wa_ALL) : GoodIn wa_ALL [w] := fun x hx => by rw [List.mem_singleton.mp hx]; exact wa_good w h5
abbrev wa_na (y : MethodName) (n : Nat) : Prop := y.cls ≠ "java/lang/invoke/MethodHandle" ∧ y.cls ≠ "java/lang/invoke/VarHandle" ∧ (parseMethodDescriptor y.desc).map (fun d => d.parameters.length) = some n
abbrev wa_rm (rm R : Room) (maxL : Nat) : Prop := rm.frames + 1 ≤ R.frames ∧ 8 + (maxL + 11) + rm.locals ≤ R.locals
theorem wa_runS (F : wa_fx p s m c meth args cc nL own nm ret D cy) (hM : Met l y [.code y bytes maxL rety] rm (wa_pc As D cy Pre) Qc mc ms free) (hG : GoodIn wa_ALL (wsS own index y [.code y bytes maxL rety])) (hc : y.cls = own) (ha : wa_na y n) (hR : wa_rm rm R maxL) (hz : rm.cells = mc ∧ rm.slots = ms) (hP : Pre H) (hn : As.length = n) (hst : st0 = As.reverse ++ rest) (hW : (rest.map fun v => v.category).sum ≤ 8) (hls : ls.size = nL) (hdg : decode cc pc = .ok (.invokestatic index, 3)) (hf : cells + mc ≤ R.cells ∧ slots + ms ≤ R.slots) :
    va_Run p l e R s m args below meth c H locs cells slots mc ms (F0 m pc ls st0) rest (Qc As.toArray) free :=
  va_runS F.1 hM (cwS n F.1.2.2.2.2 hG rfl hz.1 hz.2 ⟨hc, ha⟩ hR) (wa_pre F.2.1 hP) rfl hn hls hst (lv_room hW) hdg hf
theorem wa_runSN {host : String} (F : wa_fx p s m c meth args cc nL own nm ret D cy) (hM : Met l y [.code y bytes maxL rety] rm (wa_pc As D cy Pre) Qc mc ms free) (hG : GoodIn wa_ALL [.code y bytes maxL rety]) (hl : Cond.methodLinkNest own index y host ∈ wa_NST) (hini : Cond.initialized y.cls ∈ wa_ALL) (hsta : Cond.static y ∈ wa_ALL) (ha : wa_na y n) (hR : wa_rm rm R maxL) (hz : rm.cells = mc ∧ rm.slots = ms) (hP : Pre H) (hn : As.length = n) (hst : st0 = As.reverse ++ rest) (hW : (rest.map fun v => v.category).sum ≤ 8) (hls : ls.size = nL) (hdg : decode cc pc = .ok (.invokestatic index, 3)) (hf : cells + mc ≤ R.cells ∧ slots + ms ≤ R.slots) :
    va_Run p l e R s m args below meth c H locs cells slots mc ms (F0 m pc ls st0) rest (Qc As.toArray) free :=
  va_runSN F.1 hM ⟨va_cnB n F.1.2.2.2.2 hG rfl hz.1 hz.2 (F.2.1.2.1 _ hl) (F.1.2.2.2.2 _ hini) ha hR, F.1.2.2.2.2 _ hsta, trivial⟩ (wa_pre F.2.1 hP) rfl hn hls hst (lv_room hW) hdg hf
theorem wa_rcv {kd i ci : Nat} {fs : List Value} {q : vw_C} (hSB : wa_SB D cy s) (hw : wa_wd D ad C H) (he : C kd i = some (.inr (ci, fs))) (hc : vwCl[ci]? = some q) : ∃ cell : Cell, H[ad kd i]? = some cell ∧ cell.vm.isStatics = false ∧ s.vm.findClass q.1 = some cell.cls :=
  va_recv hSB.2.2 (wa_one hw he) (q0 := 0) hc rfl
theorem wa_runV {b : Nat} (F : wa_fx p s m c meth args cc nL own nm ret D cy) (hM : Met l y [.code y bytes maxL rety] rm (wa_pc (.ref b :: As) D cy Pre) Qc mc ms free) (hG : GoodIn wa_ALL (wsV own index y.cls y [.code y bytes maxL rety])) (ha : wa_na y n) (hR : wa_rm rm R maxL) (hz : rm.cells = mc ∧ rm.slots = ms) (hP : Pre H) (hrc : ∃ cell : Cell, H[b]? = some cell ∧ cell.vm.isStatics = false ∧ s.vm.findClass y.cls = some cell.cls) (hn : As.length = n) (hst : st0 = As.reverse ++ .ref b :: rest) (hW : (rest.map fun v => v.category).sum ≤ 8) (hls : ls.size = nL) (hdg : decode cc pc = .ok (.invokevirtual index, 3)) (hf : cells + mc ≤ R.cells ∧ slots + ms ≤ R.slots) :
    va_Run p l e R s m args below meth c H locs cells slots mc ms (F0 m pc ls st0) rest (Qc (Value.ref b :: As).toArray) free :=
  va_runV F.1 hM (cwV n F.1.2.2.2.2 hG rfl hz.1 hz.2 ⟨rfl, ha⟩ hR) ⟨wa_blind, hrc, (wa_pre F.2.1 hP).2⟩ rfl hn hls hst (lv_room hW) hdg hf
theorem wa_runVN {b : Nat} {host : String} (F : wa_fx p s m c meth args cc nL own nm ret D cy) (hM : Met l y [.code y bytes maxL rety] rm (wa_pc (.ref b :: As) D cy Pre) Qc mc ms free) (hG : GoodIn wa_ALL [.code y bytes maxL rety]) (hl : Cond.methodLinkNest own index y host ∈ wa_NST) (hini : Cond.initialized y.cls ∈ wa_ALL) (hin : Cond.instanceMethod y ∈ wa_ALL) (hsl : Cond.selects y.cls y y ∈ wa_ALL) (ha : wa_na y n) (hR : wa_rm rm R maxL) (hz : rm.cells = mc ∧ rm.slots = ms) (hP : Pre H) (hrc : ∃ cell : Cell, H[b]? = some cell ∧ cell.vm.isStatics = false ∧ s.vm.findClass y.cls = some cell.cls) (hn : As.length = n) (hst : st0 = As.reverse ++ .ref b :: rest) (hW : (rest.map fun v => v.category).sum ≤ 8) (hls : ls.size = nL) (hdg : decode cc pc = .ok (.invokevirtual index, 3)) (hf : cells + mc ≤ R.cells ∧ slots + ms ≤ R.slots) :
    va_Run p l e R s m args below meth c H locs cells slots mc ms (F0 m pc ls st0) rest (Qc (Value.ref b :: As).toArray) free :=
  va_runVN (C := y.cls) F.1 hM ⟨va_cnB n F.1.2.2.2.2 hG rfl hz.1 hz.2 (F.2.1.2.1 _ hl) (F.1.2.2.2.2 _ hini) ha hR, F.1.2.2.2.2 _ hin, F.1.2.2.2.2 _ hsl⟩ ⟨wa_blind, hrc, (wa_pre F.2.1 hP).2⟩ rfl hn hls hst (lv_room hW) hdg hf
/-- an answer that is known; nothing written -/
abbrev wa_Qp (v : Int) : Array Value → State → Outcome → State → Prop := vp_Si (fun r => r = iI v)
/-- an answer that is a reference, or null; nothing written -/
abbrev wa_Qq (r : Option Nat) : Array Value → State → Outcome → State → Prop := va_Sq (fun x => x = r)
/-- an answer that is known, and the world behind it -/
abbrev wa_Qi (A : Nat → Prop) (D : va_G) (ad : Nat → Nat → Nat) (C : wa_C) (v : Int) : Array Value → State → Outcome → State → Prop := va_Qi (fun r (_ : Unit) => r = iI v) (fun _ t => wa_wd D ad C t.heap) A
abbrev wa_Qv (A : Nat → Prop) (D : va_G) (ad : Nat → Nat → Nat) (C : wa_C) : Array Value → State → Outcome → State → Prop := va_Qv (fun (_ : Unit) => True) (fun _ t => wa_wd D ad C t.heap) A
theorem wa_cp {v : Int} {a : Array Value} (hr : va_Run p l e R s m args below meth c H locs cells slots 0 0 (F0 m pc ls st0) rest (wa_Qp v a) (fun _ => False)) (kk : W p l e R s m args below meth c H locs cells slots Q (F0 m (pc + 3) ls (.int (iI v) :: rest))) : W p l e R s m args below meth c H locs cells slots Q (F0 m pc ls st0) :=
  vp_callSi hr.run (fun r h => by rw [h]; exact kk)
theorem wa_cq {v : Option Nat} {a : Array Value} (hr : va_Run p l e R s m args below meth c H locs cells slots 0 0 (F0 m pc ls st0) rest (wa_Qq v a) (fun _ => False)) (kk : W p l e R s m args below meth c H locs cells slots Q (F0 m (pc + 3) ls (va_rf v :: rest))) : W p l e R s m args below meth c H locs cells slots Q (F0 m pc ls st0) :=
  va_csq hr.run (fun r h => by rw [h]; exact kk)
theorem wa_ci {v : Int} {a : Array Value} (hr : va_Run p l e R s m args below meth c H locs cells slots mc ms (F0 m pc ls st0) rest (wa_Qi A D ad C v a) A) (hS : va_S A H0 H locs) (kk : ∀ (H1 : Heap) (locs1 : List Loc), wa_wd D ad C H1 → va_S A H0 H1 locs1 → W p l e R s m args below meth c H1 locs1 (cells + mc) (slots + ms) Q (F0 m (pc + 3) ls (.int (iI v) :: rest))) : W p l e R s m args below meth c H locs cells slots Q (F0 m pc ls st0) :=
  va_calli hr hS (fun q _ h => h) (fun q h => h) (fun r u t H1 locs1 ht hvm hw hB hz hk hS => by rw [hw]; exact kk H1 locs1 (by rw [← ht]; exact hB) hS)
theorem wa_cv {a : Array Value} (hr : va_Run p l e R s m args below meth c H locs cells slots mc ms (F0 m pc ls st0) rest (wa_Qv A D ad C a) A) (hS : va_S A H0 H locs) (kk : ∀ (H1 : Heap) (locs1 : List Loc), wa_wd D ad C H1 → va_S A H0 H1 locs1 → W p l e R s m args below meth c H1 locs1 (cells + mc) (slots + ms) Q (F0 m (pc + 3) ls rest)) : W p l e R s m args below meth c H locs cells slots Q (F0 m pc ls st0) :=
  va_callv hr hS (fun q _ h => h) (fun q h => h) (fun u t H1 locs1 ht hvm hw hB hz hk hS => kk H1 locs1 (by rw [← ht]; exact hB) hS)
-- ends
theorem wa_ep {v x : Int} (F : wa_fx p s m c meth args cc nL own nm (some .int) D cy) (hv : x = v) (hdg : decode cc pc = .ok (.ireturn, 1)) : W p l e R s m args below meth c s.heap [] cells slots (MQ below (wa_Qp v) args s cells slots (fun _ => False)) (F0 m pc ls [.int (iI x)]) :=
  W.iret F.1.1 F.1.2.1 F.2.2.1 (fun t ht _ => ⟨iI x, rfl, by rw [hv], ht⟩) (fun q h => by cases h) hdg F.2.2.2.1
theorem wa_epz {v x : Int} (F : wa_fx p s m c meth args cc nL own nm (some .boolean) D cy) (hv : x = v) (h01 : x = 0 ∨ x = 1) (hdg : decode cc pc = .ok (.ireturn, 1)) : W p l e R s m args below meth c s.heap [] cells slots (MQ below (wa_Qp v) args s cells slots (fun _ => False)) (F0 m pc ls [.int (iI x)]) :=
  W.zret F.1.1 F.1.2.1 F.2.2.1 (by rcases h01 with rfl | rfl <;> decide +kernel) (fun t ht _ => ⟨iI x, rfl, by rw [hv], ht⟩) (fun q h => by cases h) hdg F.2.2.2.1
theorem wa_eq {v x : Option Nat} {cn : String} (F : wa_fx p s m c meth args cc nL own nm (some (.object cn)) D cy) (hv : x = v) (hdg : decode cc pc = .ok (.areturn, 1)) : W p l e R s m args below meth c s.heap [] cells slots (MQ below (wa_Qq v) args s cells slots (fun _ => False)) (F0 m pc ls [va_rf x]) :=
  W.aret F.1.1 F.1.2.1 F.2.2.1 (Or.inl ⟨_, rfl⟩) (va_rf_or x) (fun t ht _ => ⟨x, rfl, hv, ht⟩) (fun q h => by cases h) hdg F.2.2.2.1
theorem wa_ei {v x : Int} (F : wa_fx p s m c meth args cc nL own nm (some .int) D cy) (hw : wa_wd D ad C H) (hS : va_S A s.heap H locs) (hv : x = v) (hdg : decode cc pc = .ok (.ireturn, 1)) : W p l e R s m args below meth c H locs cells slots (MQ below (wa_Qi A D ad C v) args s cells slots A) (F0 m pc ls [.int (iI x)]) :=
  W.iret F.1.1 F.1.2.1 F.2.2.1 (fun t ht _ => ⟨⟨iI x, (), rfl, by rw [hv], by show wa_wd D ad C t.heap; rw [ht]; exact hw⟩, hS.F ht⟩) hS.2.2 hdg F.2.2.2.1
theorem wa_eiz {v x : Int} (F : wa_fx p s m c meth args cc nL own nm (some .boolean) D cy) (hw : wa_wd D ad C H) (hS : va_S A s.heap H locs) (hv : x = v) (h01 : x = 0 ∨ x = 1) (hdg : decode cc pc = .ok (.ireturn, 1)) : W p l e R s m args below meth c H locs cells slots (MQ below (wa_Qi A D ad C v) args s cells slots A) (F0 m pc ls [.int (iI x)]) :=
  W.zret F.1.1 F.1.2.1 F.2.2.1 (by rcases h01 with rfl | rfl <;> decide +kernel) (fun t ht _ => ⟨⟨iI x, (), rfl, by rw [hv], by show wa_wd D ad C t.heap; rw [ht]; exact hw⟩, hS.F ht⟩) hS.2.2 hdg F.2.2.2.1
theorem wa_ev (F : wa_fx p s m c meth args cc nL own nm none D cy) (hw : wa_wd D ad C H) (hS : va_S A s.heap H locs) (hdg : decode cc pc = .ok (.return_, 1)) : W p l e R s m args below meth c H locs cells slots (MQ below (wa_Qv A D ad C) args s cells slots A) (F0 m pc ls []) :=
  W.vret F.1.1 F.1.2.1 F.2.2.1 (fun t ht _ => ⟨⟨(), rfl, trivial, by show wa_wd D ad C t.heap; rw [ht]; exact hw⟩, hS.F ht⟩) hS.2.2 hdg F.2.2.2.1
end WAC
end
section
/-! the words by their places (laid by program) -/
theorem inF0 : ∀ w ∈ u_ws RX0 TX0 9, w ∈ wa_ALL := by decide +kernel
theorem inF1 : ∀ w ∈ u_ws RX1 TX1 6, w ∈ wa_ALL := by decide +kernel
theorem inF2 : ∀ w ∈ u_ws RX2 TX2 4, w ∈ wa_ALL := by decide +kernel
theorem inF3 : ∀ w ∈ u_ws RX3 TX3 5, w ∈ wa_ALL := by decide +kernel
theorem inF4 : ∀ w ∈ u_ws RX4 TX4 17, w ∈ wa_ALL := by decide +kernel
theorem inF5 : ∀ w ∈ u_ws RX5 TX5 32, w ∈ wa_ALL := by decide +kernel
theorem qw_412 : Cond.fieldLink "ImageBaker$Bake" 9 "ImageBaker$Bake" "firstDays" "[I" ∈ wa_ALL := wa_in 412 (by decide +kernel) rfl
theorem qw_404 : Cond.fieldLink "ImageBaker$Bake" 15 "ImageBaker$Bake" "number" "I" ∈ wa_ALL := wa_in 404 (by decide +kernel) rfl
theorem qw_406 : Cond.fieldLink "ImageBaker$Bake" 19 "ImageBaker$Bake" "image" "LImageBaker$Image;" ∈ wa_ALL := wa_in 406 (by decide +kernel) rfl
theorem qw_408 : Cond.fieldLink "ImageBaker$Bake" 23 "ImageBaker$Bake" "top" "I" ∈ wa_ALL := wa_in 408 (by decide +kernel) rfl
theorem qw_410 : Cond.fieldLink "ImageBaker$Bake" 26 "ImageBaker$Bake" "day" "I" ∈ wa_ALL := wa_in 410 (by decide +kernel) rfl
theorem qw_301 : Cond.fieldLink "ImageBaker$Image" 9 "ImageBaker$Image" "inputs" "[I" ∈ wa_ALL := wa_in 301 (by decide +kernel) rfl
theorem qw_297 : Cond.fieldLink "ImageBaker$Image" 15 "ImageBaker$Image" "number" "I" ∈ wa_ALL := wa_in 297 (by decide +kernel) rfl
theorem qw_299 : Cond.fieldLink "ImageBaker$Image" 19 "ImageBaker$Image" "parent" "LImageBaker$Image;" ∈ wa_ALL := wa_in 299 (by decide +kernel) rfl
theorem qw_303 : Cond.fieldLink "ImageBaker$Image" 23 "ImageBaker$Image" "stepCount" "I" ∈ wa_ALL := wa_in 303 (by decide +kernel) rfl
theorem qw_75 : Cond.fieldLink "ImageBaker$Layers" 9 "ImageBaker$Layers" "belows" "[I" ∈ wa_ALL := wa_in 75 (by decide +kernel) rfl
theorem qw_76 : Cond.fieldLink "ImageBaker$Layers" 15 "ImageBaker$Layers" "inputs" "[I" ∈ wa_ALL := wa_in 76 (by decide +kernel) rfl
theorem qw_77 : Cond.fieldLink "ImageBaker$Layers" 18 "ImageBaker$Layers" "versions" "[I" ∈ wa_ALL := wa_in 77 (by decide +kernel) rfl
theorem qw_78 : Cond.fieldLink "ImageBaker$Layers" 21 "ImageBaker$Layers" "count" "I" ∈ wa_ALL := wa_in 78 (by decide +kernel) rfl
theorem qw_592 : Cond.fieldLink "ImageBaker$Machine" 7 "ImageBaker$Machine" "number" "I" ∈ wa_ALL := wa_in 592 (by decide +kernel) rfl
theorem qw_594 : Cond.fieldLink "ImageBaker$Machine" 13 "ImageBaker$Machine" "image" "LImageBaker$Image;" ∈ wa_ALL := wa_in 594 (by decide +kernel) rfl
theorem qw_596 : Cond.fieldLink "ImageBaker$Machine" 17 "ImageBaker$Machine" "place" "I" ∈ wa_ALL := wa_in 596 (by decide +kernel) rfl
theorem qw_598 : Cond.fieldLink "ImageBaker$Machine" 20 "ImageBaker$Machine" "ring" "I" ∈ wa_ALL := wa_in 598 (by decide +kernel) rfl
theorem qw_600 : Cond.fieldLink "ImageBaker$Machine" 23 "ImageBaker$Machine" "bake" "LImageBaker$Bake;" ∈ wa_ALL := wa_in 600 (by decide +kernel) rfl
theorem qw_96 : Cond.fieldLink "ImageBaker" 12 "ImageBaker" "layers" "LImageBaker$Layers;" ∈ wa_ALL := wa_in 96 (by decide +kernel) rfl
theorem qw_97 : Cond.fieldLink "ImageBaker" 16 "ImageBaker" "versions" "[I" ∈ wa_ALL := wa_in 97 (by decide +kernel) rfl
theorem qw_98 : Cond.fieldLink "ImageBaker" 20 "ImageBaker" "greatestVersions" "[I" ∈ wa_ALL := wa_in 98 (by decide +kernel) rfl
theorem qw_99 : Cond.fieldLink "ImageBaker" 25 "ImageBaker" "images" "[LImageBaker$Image;" ∈ wa_ALL := wa_in 99 (by decide +kernel) rfl
theorem qw_101 : Cond.fieldLink "ImageBaker" 31 "ImageBaker" "bakes" "[LImageBaker$Bake;" ∈ wa_ALL := wa_in 101 (by decide +kernel) rfl
theorem qw_103 : Cond.fieldLink "ImageBaker" 37 "ImageBaker" "machines" "[LImageBaker$Machine;" ∈ wa_ALL := wa_in 103 (by decide +kernel) rfl
theorem qw_106 : Cond.fieldLink "ImageBaker" 41 "ImageBaker" "delays" "[I" ∈ wa_ALL := wa_in 106 (by decide +kernel) rfl
theorem qw_109 : Cond.fieldLink "ImageBaker" 44 "ImageBaker" "line" "[LImageBaker$Image;" ∈ wa_ALL := wa_in 109 (by decide +kernel) rfl
theorem qw_110 : Cond.fieldLink "ImageBaker" 47 "ImageBaker" "forefathers" "[LImageBaker$Image;" ∈ wa_ALL := wa_in 110 (by decide +kernel) rfl
theorem qw_111 : Cond.fieldLink "ImageBaker" 50 "ImageBaker" "chain" "[I" ∈ wa_ALL := wa_in 111 (by decide +kernel) rfl
theorem qw_112 : Cond.fieldLink "ImageBaker" 53 "ImageBaker" "waiting" "[LImageBaker$Machine;" ∈ wa_ALL := wa_in 112 (by decide +kernel) rfl
theorem qw_107 : Cond.fieldLink "ImageBaker" 56 "ImageBaker" "startAge" "I" ∈ wa_ALL := wa_in 107 (by decide +kernel) rfl
theorem qw_108 : Cond.fieldLink "ImageBaker" 60 "ImageBaker" "keepAge" "I" ∈ wa_ALL := wa_in 108 (by decide +kernel) rfl
theorem qw_100 : Cond.fieldLink "ImageBaker" 67 "ImageBaker" "imageCount" "I" ∈ wa_ALL := wa_in 100 (by decide +kernel) rfl
theorem qn_250 : Cond.fieldLinkNest "ImageBaker" 80 "ImageBaker$Image" "number" "I" "ImageBaker" ∈ wa_NST := wa_inN 250 (by decide +kernel) rfl
theorem qn_256 : Cond.fieldLinkNest "ImageBaker" 94 "ImageBaker$Image" "stepCount" "I" "ImageBaker" ∈ wa_NST := wa_inN 256 (by decide +kernel) rfl
theorem qn_252 : Cond.fieldLinkNest "ImageBaker" 99 "ImageBaker$Image" "parent" "LImageBaker$Image;" "ImageBaker" ∈ wa_NST := wa_inN 252 (by decide +kernel) rfl
theorem qn_257 : Cond.fieldLinkNest "ImageBaker" 103 "ImageBaker$Image" "latest" "LImageBaker$Bake;" "ImageBaker" ∈ wa_NST := wa_inN 257 (by decide +kernel) rfl
theorem qw_102 : Cond.fieldLink "ImageBaker" 113 "ImageBaker" "bakeCount" "I" ∈ wa_ALL := wa_in 102 (by decide +kernel) rfl
theorem qn_31 : Cond.fieldLinkNest "ImageBaker" 138 "ImageBaker$Layers" "count" "I" "ImageBaker" ∈ wa_NST := wa_inN 31 (by decide +kernel) rfl
theorem qn_361 : Cond.fieldLinkNest "ImageBaker" 145 "ImageBaker$Bake" "top" "I" "ImageBaker" ∈ wa_NST := wa_inN 361 (by decide +kernel) rfl
theorem qn_368 : Cond.fieldLinkNest "ImageBaker" 148 "ImageBaker$Bake" "gone" "Z" "ImageBaker" ∈ wa_NST := wa_inN 368 (by decide +kernel) rfl
theorem qn_366 : Cond.fieldLinkNest "ImageBaker" 154 "ImageBaker$Bake" "passedInRing" "Z" "ImageBaker" ∈ wa_NST := wa_inN 366 (by decide +kernel) rfl
theorem qn_367 : Cond.fieldLinkNest "ImageBaker" 157 "ImageBaker$Bake" "held" "Z" "ImageBaker" ∈ wa_NST := wa_inN 367 (by decide +kernel) rfl
theorem qn_365 : Cond.fieldLinkNest "ImageBaker" 165 "ImageBaker$Bake" "ring" "I" "ImageBaker" ∈ wa_NST := wa_inN 365 (by decide +kernel) rfl
theorem qw_105 : Cond.fieldLink "ImageBaker" 178 "ImageBaker" "today" "I" ∈ wa_ALL := wa_in 105 (by decide +kernel) rfl
theorem qw_104 : Cond.fieldLink "ImageBaker" 208 "ImageBaker" "machineCount" "I" ∈ wa_ALL := wa_in 104 (by decide +kernel) rfl
theorem qn_545 : Cond.fieldLinkNest "ImageBaker" 216 "ImageBaker$Machine" "number" "I" "ImageBaker" ∈ wa_NST := wa_inN 545 (by decide +kernel) rfl
theorem qn_547 : Cond.fieldLinkNest "ImageBaker" 221 "ImageBaker$Machine" "image" "LImageBaker$Image;" "ImageBaker" ∈ wa_NST := wa_inN 547 (by decide +kernel) rfl
theorem qn_549 : Cond.fieldLinkNest "ImageBaker" 224 "ImageBaker$Machine" "place" "I" "ImageBaker" ∈ wa_NST := wa_inN 549 (by decide +kernel) rfl
theorem qn_551 : Cond.fieldLinkNest "ImageBaker" 227 "ImageBaker$Machine" "ring" "I" "ImageBaker" ∈ wa_NST := wa_inN 551 (by decide +kernel) rfl
theorem qn_553 : Cond.fieldLinkNest "ImageBaker" 230 "ImageBaker$Machine" "bake" "LImageBaker$Bake;" "ImageBaker" ∈ wa_NST := wa_inN 553 (by decide +kernel) rfl
theorem qn_357 : Cond.fieldLinkNest "ImageBaker" 233 "ImageBaker$Bake" "number" "I" "ImageBaker" ∈ wa_NST := wa_inN 357 (by decide +kernel) rfl
theorem qn_254 : Cond.fieldLinkNest "ImageBaker" 247 "ImageBaker$Image" "inputs" "[I" "ImageBaker" ∈ wa_NST := wa_inN 254 (by decide +kernel) rfl
theorem qn_258 : Cond.fieldLinkNest "ImageBaker" 271 "ImageBaker$Image" "topToCome" "I" "ImageBaker" ∈ wa_NST := wa_inN 258 (by decide +kernel) rfl
theorem qn_363 : Cond.fieldLinkNest "ImageBaker" 295 "ImageBaker$Bake" "day" "I" "ImageBaker" ∈ wa_NST := wa_inN 363 (by decide +kernel) rfl
theorem qn_359 : Cond.fieldLinkNest "ImageBaker" 302 "ImageBaker$Bake" "image" "LImageBaker$Image;" "ImageBaker" ∈ wa_NST := wa_inN 359 (by decide +kernel) rfl
theorem qw_661 : Cond.fieldLink "ImageBakerModel" 7 "ImageBakerModel" "version" "[I" ∈ wa_ALL := wa_in 661 (by decide +kernel) rfl
theorem qw_662 : Cond.fieldLink "ImageBakerModel" 13 "ImageBakerModel" "greatest" "[I" ∈ wa_ALL := wa_in 662 (by decide +kernel) rfl
theorem qw_663 : Cond.fieldLink "ImageBakerModel" 16 "ImageBakerModel" "parent" "[I" ∈ wa_ALL := wa_in 663 (by decide +kernel) rfl
theorem qw_664 : Cond.fieldLink "ImageBakerModel" 19 "ImageBakerModel" "inputOf" "[I" ∈ wa_ALL := wa_in 664 (by decide +kernel) rfl
theorem qw_665 : Cond.fieldLink "ImageBakerModel" 22 "ImageBakerModel" "steps" "[I" ∈ wa_ALL := wa_in 665 (by decide +kernel) rfl
theorem qw_666 : Cond.fieldLink "ImageBakerModel" 25 "ImageBakerModel" "latest" "[I" ∈ wa_ALL := wa_in 666 (by decide +kernel) rfl
theorem qw_668 : Cond.fieldLink "ImageBakerModel" 28 "ImageBakerModel" "below" "[I" ∈ wa_ALL := wa_in 668 (by decide +kernel) rfl
theorem qw_669 : Cond.fieldLink "ImageBakerModel" 31 "ImageBakerModel" "input" "[I" ∈ wa_ALL := wa_in 669 (by decide +kernel) rfl
theorem qw_670 : Cond.fieldLink "ImageBakerModel" 34 "ImageBakerModel" "its" "[I" ∈ wa_ALL := wa_in 670 (by decide +kernel) rfl
theorem qw_672 : Cond.fieldLink "ImageBakerModel" 37 "ImageBakerModel" "image" "[I" ∈ wa_ALL := wa_in 672 (by decide +kernel) rfl
theorem qw_673 : Cond.fieldLink "ImageBakerModel" 40 "ImageBakerModel" "top" "[I" ∈ wa_ALL := wa_in 673 (by decide +kernel) rfl
theorem qw_674 : Cond.fieldLink "ImageBakerModel" 43 "ImageBakerModel" "made" "[I" ∈ wa_ALL := wa_in 674 (by decide +kernel) rfl
theorem qw_675 : Cond.fieldLink "ImageBakerModel" 46 "ImageBakerModel" "ring" "[I" ∈ wa_ALL := wa_in 675 (by decide +kernel) rfl
theorem qw_676 : Cond.fieldLink "ImageBakerModel" 49 "ImageBakerModel" "isHeld" "[Z" ∈ wa_ALL := wa_in 676 (by decide +kernel) rfl
theorem qw_677 : Cond.fieldLink "ImageBakerModel" 53 "ImageBakerModel" "isGone" "[Z" ∈ wa_ALL := wa_in 677 (by decide +kernel) rfl
theorem qw_678 : Cond.fieldLink "ImageBakerModel" 56 "ImageBakerModel" "isPassed" "[Z" ∈ wa_ALL := wa_in 678 (by decide +kernel) rfl
theorem qw_679 : Cond.fieldLink "ImageBakerModel" 59 "ImageBakerModel" "there" "[I" ∈ wa_ALL := wa_in 679 (by decide +kernel) rfl
theorem qw_681 : Cond.fieldLink "ImageBakerModel" 62 "ImageBakerModel" "delay" "[I" ∈ wa_ALL := wa_in 681 (by decide +kernel) rfl
theorem qw_682 : Cond.fieldLink "ImageBakerModel" 65 "ImageBakerModel" "startAge" "I" ∈ wa_ALL := wa_in 682 (by decide +kernel) rfl
theorem qw_683 : Cond.fieldLink "ImageBakerModel" 69 "ImageBakerModel" "keepAge" "I" ∈ wa_ALL := wa_in 683 (by decide +kernel) rfl
theorem qw_684 : Cond.fieldLink "ImageBakerModel" 72 "ImageBakerModel" "machineImage" "[I" ∈ wa_ALL := wa_in 684 (by decide +kernel) rfl
theorem qw_685 : Cond.fieldLink "ImageBakerModel" 75 "ImageBakerModel" "machinePlace" "[I" ∈ wa_ALL := wa_in 685 (by decide +kernel) rfl
theorem qw_686 : Cond.fieldLink "ImageBakerModel" 78 "ImageBakerModel" "machineRing" "[I" ∈ wa_ALL := wa_in 686 (by decide +kernel) rfl
theorem qw_687 : Cond.fieldLink "ImageBakerModel" 81 "ImageBakerModel" "runs" "[I" ∈ wa_ALL := wa_in 687 (by decide +kernel) rfl
theorem qw_689 : Cond.fieldLink "ImageBakerModel" 84 "ImageBakerModel" "line" "[I" ∈ wa_ALL := wa_in 689 (by decide +kernel) rfl
theorem qw_690 : Cond.fieldLink "ImageBakerModel" 87 "ImageBakerModel" "before" "[I" ∈ wa_ALL := wa_in 690 (by decide +kernel) rfl
theorem qw_659 : Cond.fieldLink "ImageBakerModel" 90 "ImageBakerModel" "thrown" "I" ∈ wa_ALL := wa_in 659 (by decide +kernel) rfl
theorem qw_667 : Cond.fieldLink "ImageBakerModel" 93 "ImageBakerModel" "images" "I" ∈ wa_ALL := wa_in 667 (by decide +kernel) rfl
theorem qw_680 : Cond.fieldLink "ImageBakerModel" 100 "ImageBakerModel" "bakes" "I" ∈ wa_ALL := wa_in 680 (by decide +kernel) rfl
theorem qw_671 : Cond.fieldLink "ImageBakerModel" 110 "ImageBakerModel" "layers" "I" ∈ wa_ALL := wa_in 671 (by decide +kernel) rfl
theorem qw_660 : Cond.fieldLink "ImageBakerModel" 130 "ImageBakerModel" "day" "I" ∈ wa_ALL := wa_in 660 (by decide +kernel) rfl
theorem qw_688 : Cond.fieldLink "ImageBakerModel" 147 "ImageBakerModel" "machines" "I" ∈ wa_ALL := wa_in 688 (by decide +kernel) rfl
theorem qw_49 : Cond.initialized "ImageBaker" ∈ wa_ALL := wa_in 49 (by decide +kernel) rfl
theorem qw_201 : Cond.instanceMethod ⟨"ImageBaker", "add", "(I)I"⟩ ∈ wa_ALL := wa_in 201 (by decide +kernel) rfl
theorem qw_202 : Cond.selects "ImageBaker" ⟨"ImageBaker", "add", "(I)I"⟩ ⟨"ImageBaker", "add", "(I)I"⟩ ∈ wa_ALL := wa_in 202 (by decide +kernel) rfl
theorem qw_203 : Cond.code ⟨"ImageBaker", "add", "(I)I"⟩ prog_1_method_2_code 4 (Option.some FieldType.int) ∈ wa_ALL := wa_in 203 (by decide +kernel) rfl
theorem qw_200 : Cond.methodLink "ImageBakerLaw" 7 ⟨"ImageBaker", "add", "(I)I"⟩ ∈ wa_ALL := wa_in 200 (by decide +kernel) rfl
theorem qw_325 : Cond.instanceMethod ⟨"ImageBaker", "step", "(II)I"⟩ ∈ wa_ALL := wa_in 325 (by decide +kernel) rfl
theorem qw_326 : Cond.selects "ImageBaker" ⟨"ImageBaker", "step", "(II)I"⟩ ⟨"ImageBaker", "step", "(II)I"⟩ ∈ wa_ALL := wa_in 326 (by decide +kernel) rfl
theorem qw_327 : Cond.code ⟨"ImageBaker", "step", "(II)I"⟩ prog_1_method_3_code 4 (Option.some FieldType.int) ∈ wa_ALL := wa_in 327 (by decide +kernel) rfl
theorem qw_324 : Cond.methodLink "ImageBakerLaw" 17 ⟨"ImageBaker", "step", "(II)I"⟩ ∈ wa_ALL := wa_in 324 (by decide +kernel) rfl
theorem qw_353 : Cond.instanceMethod ⟨"ImageBaker", "change", "(II)I"⟩ ∈ wa_ALL := wa_in 353 (by decide +kernel) rfl
theorem qw_354 : Cond.selects "ImageBaker" ⟨"ImageBaker", "change", "(II)I"⟩ ⟨"ImageBaker", "change", "(II)I"⟩ ∈ wa_ALL := wa_in 354 (by decide +kernel) rfl
theorem qw_355 : Cond.code ⟨"ImageBaker", "change", "(II)I"⟩ prog_1_method_4_code 3 (Option.some FieldType.int) ∈ wa_ALL := wa_in 355 (by decide +kernel) rfl
theorem qw_352 : Cond.methodLink "ImageBakerLaw" 23 ⟨"ImageBaker", "change", "(II)I"⟩ ∈ wa_ALL := wa_in 352 (by decide +kernel) rfl
theorem qw_361 : Cond.instanceMethod ⟨"ImageBaker", "bake", "(I)I"⟩ ∈ wa_ALL := wa_in 361 (by decide +kernel) rfl
theorem qw_362 : Cond.selects "ImageBaker" ⟨"ImageBaker", "bake", "(I)I"⟩ ⟨"ImageBaker", "bake", "(I)I"⟩ ∈ wa_ALL := wa_in 362 (by decide +kernel) rfl
theorem qw_363 : Cond.code ⟨"ImageBaker", "bake", "(I)I"⟩ prog_1_method_5_code 3 (Option.some FieldType.int) ∈ wa_ALL := wa_in 363 (by decide +kernel) rfl
theorem qw_360 : Cond.methodLink "ImageBakerLaw" 26 ⟨"ImageBaker", "bake", "(I)I"⟩ ∈ wa_ALL := wa_in 360 (by decide +kernel) rfl
theorem qw_443 : Cond.instanceMethod ⟨"ImageBaker", "bakeAll", "()I"⟩ ∈ wa_ALL := wa_in 443 (by decide +kernel) rfl
theorem qw_444 : Cond.selects "ImageBaker" ⟨"ImageBaker", "bakeAll", "()I"⟩ ⟨"ImageBaker", "bakeAll", "()I"⟩ ∈ wa_ALL := wa_in 444 (by decide +kernel) rfl
theorem qw_445 : Cond.code ⟨"ImageBaker", "bakeAll", "()I"⟩ prog_1_method_6_code 6 (Option.some FieldType.int) ∈ wa_ALL := wa_in 445 (by decide +kernel) rfl
theorem qw_442 : Cond.methodLink "ImageBakerLaw" 29 ⟨"ImageBaker", "bakeAll", "()I"⟩ ∈ wa_ALL := wa_in 442 (by decide +kernel) rfl
theorem qw_463 : Cond.instanceMethod ⟨"ImageBaker", "isFresh", "(I)Z"⟩ ∈ wa_ALL := wa_in 463 (by decide +kernel) rfl
theorem qw_464 : Cond.selects "ImageBaker" ⟨"ImageBaker", "isFresh", "(I)Z"⟩ ⟨"ImageBaker", "isFresh", "(I)Z"⟩ ∈ wa_ALL := wa_in 464 (by decide +kernel) rfl
theorem qw_465 : Cond.code ⟨"ImageBaker", "isFresh", "(I)Z"⟩ prog_1_method_7_code 3 (Option.some FieldType.boolean) ∈ wa_ALL := wa_in 465 (by decide +kernel) rfl
theorem qw_462 : Cond.methodLink "ImageBakerLaw" 33 ⟨"ImageBaker", "isFresh", "(I)Z"⟩ ∈ wa_ALL := wa_in 462 (by decide +kernel) rfl
theorem qw_470 : Cond.instanceMethod ⟨"ImageBaker", "isFreshAnew", "(I)Z"⟩ ∈ wa_ALL := wa_in 470 (by decide +kernel) rfl
theorem qw_471 : Cond.selects "ImageBaker" ⟨"ImageBaker", "isFreshAnew", "(I)Z"⟩ ⟨"ImageBaker", "isFreshAnew", "(I)Z"⟩ ∈ wa_ALL := wa_in 471 (by decide +kernel) rfl
theorem qw_472 : Cond.code ⟨"ImageBaker", "isFreshAnew", "(I)Z"⟩ prog_1_method_8_code 3 (Option.some FieldType.boolean) ∈ wa_ALL := wa_in 472 (by decide +kernel) rfl
theorem qw_469 : Cond.methodLink "ImageBakerLaw" 37 ⟨"ImageBaker", "isFreshAnew", "(I)Z"⟩ ∈ wa_ALL := wa_in 469 (by decide +kernel) rfl
theorem qw_494 : Cond.instanceMethod ⟨"ImageBaker", "latest", "(I)I"⟩ ∈ wa_ALL := wa_in 494 (by decide +kernel) rfl
theorem qw_495 : Cond.selects "ImageBaker" ⟨"ImageBaker", "latest", "(I)I"⟩ ⟨"ImageBaker", "latest", "(I)I"⟩ ∈ wa_ALL := wa_in 495 (by decide +kernel) rfl
theorem qw_496 : Cond.code ⟨"ImageBaker", "latest", "(I)I"⟩ prog_1_method_11_code 2 (Option.some FieldType.int) ∈ wa_ALL := wa_in 496 (by decide +kernel) rfl
theorem qw_493 : Cond.methodLink "ImageBakerLaw" 40 ⟨"ImageBaker", "latest", "(I)I"⟩ ∈ wa_ALL := wa_in 493 (by decide +kernel) rfl
theorem qw_501 : Cond.instanceMethod ⟨"ImageBaker", "top", "(I)I"⟩ ∈ wa_ALL := wa_in 501 (by decide +kernel) rfl
theorem qw_502 : Cond.selects "ImageBaker" ⟨"ImageBaker", "top", "(I)I"⟩ ⟨"ImageBaker", "top", "(I)I"⟩ ∈ wa_ALL := wa_in 502 (by decide +kernel) rfl
theorem qw_503 : Cond.code ⟨"ImageBaker", "top", "(I)I"⟩ prog_1_method_12_code 2 (Option.some FieldType.int) ∈ wa_ALL := wa_in 503 (by decide +kernel) rfl
theorem qw_500 : Cond.methodLink "ImageBakerLaw" 43 ⟨"ImageBaker", "top", "(I)I"⟩ ∈ wa_ALL := wa_in 500 (by decide +kernel) rfl
theorem qw_513 : Cond.instanceMethod ⟨"ImageBaker", "test", "(IZ)Z"⟩ ∈ wa_ALL := wa_in 513 (by decide +kernel) rfl
theorem qw_514 : Cond.selects "ImageBaker" ⟨"ImageBaker", "test", "(IZ)Z"⟩ ⟨"ImageBaker", "test", "(IZ)Z"⟩ ∈ wa_ALL := wa_in 514 (by decide +kernel) rfl
theorem qw_515 : Cond.code ⟨"ImageBaker", "test", "(IZ)Z"⟩ prog_1_method_13_code 4 (Option.some FieldType.boolean) ∈ wa_ALL := wa_in 515 (by decide +kernel) rfl
theorem qw_512 : Cond.methodLink "ImageBakerLaw" 46 ⟨"ImageBaker", "test", "(IZ)Z"⟩ ∈ wa_ALL := wa_in 512 (by decide +kernel) rfl
theorem qw_521 : Cond.instanceMethod ⟨"ImageBaker", "hold", "(I)I"⟩ ∈ wa_ALL := wa_in 521 (by decide +kernel) rfl
theorem qw_522 : Cond.selects "ImageBaker" ⟨"ImageBaker", "hold", "(I)I"⟩ ⟨"ImageBaker", "hold", "(I)I"⟩ ∈ wa_ALL := wa_in 522 (by decide +kernel) rfl
theorem qw_523 : Cond.code ⟨"ImageBaker", "hold", "(I)I"⟩ prog_1_method_14_code 3 (Option.some FieldType.int) ∈ wa_ALL := wa_in 523 (by decide +kernel) rfl
theorem qw_520 : Cond.methodLink "ImageBakerLaw" 50 ⟨"ImageBaker", "hold", "(I)I"⟩ ∈ wa_ALL := wa_in 520 (by decide +kernel) rfl
theorem qw_533 : Cond.instanceMethod ⟨"ImageBaker", "raise", "(I)I"⟩ ∈ wa_ALL := wa_in 533 (by decide +kernel) rfl
theorem qw_534 : Cond.selects "ImageBaker" ⟨"ImageBaker", "raise", "(I)I"⟩ ⟨"ImageBaker", "raise", "(I)I"⟩ ∈ wa_ALL := wa_in 534 (by decide +kernel) rfl
theorem qw_535 : Cond.code ⟨"ImageBaker", "raise", "(I)I"⟩ prog_1_method_15_code 3 (Option.some FieldType.int) ∈ wa_ALL := wa_in 535 (by decide +kernel) rfl
theorem qw_532 : Cond.methodLink "ImageBakerLaw" 53 ⟨"ImageBaker", "raise", "(I)I"⟩ ∈ wa_ALL := wa_in 532 (by decide +kernel) rfl
theorem qw_541 : Cond.instanceMethod ⟨"ImageBaker", "copy", "(II)I"⟩ ∈ wa_ALL := wa_in 541 (by decide +kernel) rfl
theorem qw_542 : Cond.selects "ImageBaker" ⟨"ImageBaker", "copy", "(II)I"⟩ ⟨"ImageBaker", "copy", "(II)I"⟩ ∈ wa_ALL := wa_in 542 (by decide +kernel) rfl
theorem qw_543 : Cond.code ⟨"ImageBaker", "copy", "(II)I"⟩ prog_1_method_16_code 4 (Option.some FieldType.int) ∈ wa_ALL := wa_in 543 (by decide +kernel) rfl
theorem qw_540 : Cond.methodLink "ImageBakerLaw" 56 ⟨"ImageBaker", "copy", "(II)I"⟩ ∈ wa_ALL := wa_in 540 (by decide +kernel) rfl
theorem qw_554 : Cond.instanceMethod ⟨"ImageBaker", "setRules", "(IIII)V"⟩ ∈ wa_ALL := wa_in 554 (by decide +kernel) rfl
theorem qw_555 : Cond.selects "ImageBaker" ⟨"ImageBaker", "setRules", "(IIII)V"⟩ ⟨"ImageBaker", "setRules", "(IIII)V"⟩ ∈ wa_ALL := wa_in 555 (by decide +kernel) rfl
theorem qw_556 : Cond.code ⟨"ImageBaker", "setRules", "(IIII)V"⟩ prog_1_method_17_code 5 (none) ∈ wa_ALL := wa_in 556 (by decide +kernel) rfl
theorem qw_553 : Cond.methodLink "ImageBakerLaw" 59 ⟨"ImageBaker", "setRules", "(IIII)V"⟩ ∈ wa_ALL := wa_in 553 (by decide +kernel) rfl
theorem qw_563 : Cond.instanceMethod ⟨"ImageBaker", "pass", "(I)I"⟩ ∈ wa_ALL := wa_in 563 (by decide +kernel) rfl
theorem qw_564 : Cond.selects "ImageBaker" ⟨"ImageBaker", "pass", "(I)I"⟩ ⟨"ImageBaker", "pass", "(I)I"⟩ ∈ wa_ALL := wa_in 564 (by decide +kernel) rfl
theorem qw_565 : Cond.code ⟨"ImageBaker", "pass", "(I)I"⟩ prog_1_method_18_code 7 (Option.some FieldType.int) ∈ wa_ALL := wa_in 565 (by decide +kernel) rfl
theorem qw_562 : Cond.methodLink "ImageBakerLaw" 63 ⟨"ImageBaker", "pass", "(I)I"⟩ ∈ wa_ALL := wa_in 562 (by decide +kernel) rfl
theorem qw_575 : Cond.instanceMethod ⟨"ImageBaker", "state", "(I)I"⟩ ∈ wa_ALL := wa_in 575 (by decide +kernel) rfl
theorem qw_576 : Cond.selects "ImageBaker" ⟨"ImageBaker", "state", "(I)I"⟩ ⟨"ImageBaker", "state", "(I)I"⟩ ∈ wa_ALL := wa_in 576 (by decide +kernel) rfl
theorem qw_577 : Cond.code ⟨"ImageBaker", "state", "(I)I"⟩ prog_1_method_19_code 4 (Option.some FieldType.int) ∈ wa_ALL := wa_in 577 (by decide +kernel) rfl
theorem qw_574 : Cond.methodLink "ImageBakerLaw" 66 ⟨"ImageBaker", "state", "(I)I"⟩ ∈ wa_ALL := wa_in 574 (by decide +kernel) rfl
theorem qw_582 : Cond.instanceMethod ⟨"ImageBaker", "start", "(III)I"⟩ ∈ wa_ALL := wa_in 582 (by decide +kernel) rfl
theorem qw_583 : Cond.selects "ImageBaker" ⟨"ImageBaker", "start", "(III)I"⟩ ⟨"ImageBaker", "start", "(III)I"⟩ ∈ wa_ALL := wa_in 583 (by decide +kernel) rfl
theorem qw_584 : Cond.code ⟨"ImageBaker", "start", "(III)I"⟩ prog_1_method_20_code 7 (Option.some FieldType.int) ∈ wa_ALL := wa_in 584 (by decide +kernel) rfl
theorem qw_581 : Cond.methodLink "ImageBakerLaw" 69 ⟨"ImageBaker", "start", "(III)I"⟩ ∈ wa_ALL := wa_in 581 (by decide +kernel) rfl
theorem qw_617 : Cond.instanceMethod ⟨"ImageBaker", "renew", "(I)I"⟩ ∈ wa_ALL := wa_in 617 (by decide +kernel) rfl
theorem qw_618 : Cond.selects "ImageBaker" ⟨"ImageBaker", "renew", "(I)I"⟩ ⟨"ImageBaker", "renew", "(I)I"⟩ ∈ wa_ALL := wa_in 618 (by decide +kernel) rfl
theorem qw_619 : Cond.code ⟨"ImageBaker", "renew", "(I)I"⟩ prog_1_method_21_code 4 (Option.some FieldType.int) ∈ wa_ALL := wa_in 619 (by decide +kernel) rfl
theorem qw_616 : Cond.methodLink "ImageBakerLaw" 73 ⟨"ImageBaker", "renew", "(I)I"⟩ ∈ wa_ALL := wa_in 616 (by decide +kernel) rfl
theorem qw_635 : Cond.instanceMethod ⟨"ImageBaker", "stop", "(I)I"⟩ ∈ wa_ALL := wa_in 635 (by decide +kernel) rfl
theorem qw_636 : Cond.selects "ImageBaker" ⟨"ImageBaker", "stop", "(I)I"⟩ ⟨"ImageBaker", "stop", "(I)I"⟩ ∈ wa_ALL := wa_in 636 (by decide +kernel) rfl
theorem qw_637 : Cond.code ⟨"ImageBaker", "stop", "(I)I"⟩ prog_1_method_22_code 4 (Option.some FieldType.int) ∈ wa_ALL := wa_in 637 (by decide +kernel) rfl
theorem qw_634 : Cond.methodLink "ImageBakerLaw" 76 ⟨"ImageBaker", "stop", "(I)I"⟩ ∈ wa_ALL := wa_in 634 (by decide +kernel) rfl
theorem qw_642 : Cond.instanceMethod ⟨"ImageBaker", "runsFrom", "(I)I"⟩ ∈ wa_ALL := wa_in 642 (by decide +kernel) rfl
theorem qw_643 : Cond.selects "ImageBaker" ⟨"ImageBaker", "runsFrom", "(I)I"⟩ ⟨"ImageBaker", "runsFrom", "(I)I"⟩ ∈ wa_ALL := wa_in 643 (by decide +kernel) rfl
theorem qw_644 : Cond.code ⟨"ImageBaker", "runsFrom", "(I)I"⟩ prog_1_method_23_code 2 (Option.some FieldType.int) ∈ wa_ALL := wa_in 644 (by decide +kernel) rfl
theorem qw_641 : Cond.methodLink "ImageBakerLaw" 79 ⟨"ImageBaker", "runsFrom", "(I)I"⟩ ∈ wa_ALL := wa_in 641 (by decide +kernel) rfl
theorem qw_649 : Cond.instanceMethod ⟨"ImageBaker", "oldAt", "(I)I"⟩ ∈ wa_ALL := wa_in 649 (by decide +kernel) rfl
theorem qw_650 : Cond.selects "ImageBaker" ⟨"ImageBaker", "oldAt", "(I)I"⟩ ⟨"ImageBaker", "oldAt", "(I)I"⟩ ∈ wa_ALL := wa_in 650 (by decide +kernel) rfl
theorem qw_651 : Cond.code ⟨"ImageBaker", "oldAt", "(I)I"⟩ prog_1_method_25_code 4 (Option.some FieldType.int) ∈ wa_ALL := wa_in 651 (by decide +kernel) rfl
theorem qw_648 : Cond.methodLink "ImageBakerLaw" 82 ⟨"ImageBaker", "oldAt", "(I)I"⟩ ∈ wa_ALL := wa_in 648 (by decide +kernel) rfl
theorem qw_51 : Cond.initialized "ImageBakerModel" ∈ wa_ALL := wa_in 51 (by decide +kernel) rfl
theorem qw_762 : Cond.instanceMethod ⟨"ImageBakerModel", "add", "(I)I"⟩ ∈ wa_ALL := wa_in 762 (by decide +kernel) rfl
theorem qw_763 : Cond.selects "ImageBakerModel" ⟨"ImageBakerModel", "add", "(I)I"⟩ ⟨"ImageBakerModel", "add", "(I)I"⟩ ∈ wa_ALL := wa_in 763 (by decide +kernel) rfl
theorem qw_764 : Cond.code ⟨"ImageBakerModel", "add", "(I)I"⟩ prog_7_method_7_code 2 (Option.some FieldType.int) ∈ wa_ALL := wa_in 764 (by decide +kernel) rfl
theorem qw_761 : Cond.methodLink "ImageBakerLaw" 94 ⟨"ImageBakerModel", "add", "(I)I"⟩ ∈ wa_ALL := wa_in 761 (by decide +kernel) rfl
theorem qw_758 : Cond.instanceMethod ⟨"ImageBakerModel", "thrown", "()I"⟩ ∈ wa_ALL := wa_in 758 (by decide +kernel) rfl
theorem qw_759 : Cond.selects "ImageBakerModel" ⟨"ImageBakerModel", "thrown", "()I"⟩ ⟨"ImageBakerModel", "thrown", "()I"⟩ ∈ wa_ALL := wa_in 759 (by decide +kernel) rfl
theorem qw_760 : Cond.code ⟨"ImageBakerModel", "thrown", "()I"⟩ prog_7_method_2_code 1 (Option.some FieldType.int) ∈ wa_ALL := wa_in 760 (by decide +kernel) rfl
theorem qw_757 : Cond.methodLink "ImageBakerLaw" 95 ⟨"ImageBakerModel", "thrown", "()I"⟩ ∈ wa_ALL := wa_in 757 (by decide +kernel) rfl
theorem qw_773 : Cond.instanceMethod ⟨"ImageBakerModel", "step", "(II)I"⟩ ∈ wa_ALL := wa_in 773 (by decide +kernel) rfl
theorem qw_774 : Cond.selects "ImageBakerModel" ⟨"ImageBakerModel", "step", "(II)I"⟩ ⟨"ImageBakerModel", "step", "(II)I"⟩ ∈ wa_ALL := wa_in 774 (by decide +kernel) rfl
theorem qw_775 : Cond.code ⟨"ImageBakerModel", "step", "(II)I"⟩ prog_7_method_8_code 4 (Option.some FieldType.int) ∈ wa_ALL := wa_in 775 (by decide +kernel) rfl
theorem qw_772 : Cond.methodLink "ImageBakerLaw" 101 ⟨"ImageBakerModel", "step", "(II)I"⟩ ∈ wa_ALL := wa_in 772 (by decide +kernel) rfl
theorem qw_781 : Cond.instanceMethod ⟨"ImageBakerModel", "change", "(II)I"⟩ ∈ wa_ALL := wa_in 781 (by decide +kernel) rfl
theorem qw_782 : Cond.selects "ImageBakerModel" ⟨"ImageBakerModel", "change", "(II)I"⟩ ⟨"ImageBakerModel", "change", "(II)I"⟩ ∈ wa_ALL := wa_in 782 (by decide +kernel) rfl
theorem qw_783 : Cond.code ⟨"ImageBakerModel", "change", "(II)I"⟩ prog_7_method_9_code 4 (Option.some FieldType.int) ∈ wa_ALL := wa_in 783 (by decide +kernel) rfl
theorem qw_780 : Cond.methodLink "ImageBakerLaw" 104 ⟨"ImageBakerModel", "change", "(II)I"⟩ ∈ wa_ALL := wa_in 780 (by decide +kernel) rfl
theorem qw_785 : Cond.instanceMethod ⟨"ImageBakerModel", "bake", "(I)I"⟩ ∈ wa_ALL := wa_in 785 (by decide +kernel) rfl
theorem qw_786 : Cond.selects "ImageBakerModel" ⟨"ImageBakerModel", "bake", "(I)I"⟩ ⟨"ImageBakerModel", "bake", "(I)I"⟩ ∈ wa_ALL := wa_in 786 (by decide +kernel) rfl
theorem qw_787 : Cond.code ⟨"ImageBakerModel", "bake", "(I)I"⟩ prog_7_method_17_code 3 (Option.some FieldType.int) ∈ wa_ALL := wa_in 787 (by decide +kernel) rfl
theorem qw_784 : Cond.methodLink "ImageBakerLaw" 107 ⟨"ImageBakerModel", "bake", "(I)I"⟩ ∈ wa_ALL := wa_in 784 (by decide +kernel) rfl
theorem qw_813 : Cond.instanceMethod ⟨"ImageBakerModel", "bakeAll", "()I"⟩ ∈ wa_ALL := wa_in 813 (by decide +kernel) rfl
theorem qw_814 : Cond.selects "ImageBakerModel" ⟨"ImageBakerModel", "bakeAll", "()I"⟩ ⟨"ImageBakerModel", "bakeAll", "()I"⟩ ∈ wa_ALL := wa_in 814 (by decide +kernel) rfl
theorem qw_815 : Cond.code ⟨"ImageBakerModel", "bakeAll", "()I"⟩ prog_7_method_19_code 8 (Option.some FieldType.int) ∈ wa_ALL := wa_in 815 (by decide +kernel) rfl
theorem qw_812 : Cond.methodLink "ImageBakerLaw" 111 ⟨"ImageBakerModel", "bakeAll", "()I"⟩ ∈ wa_ALL := wa_in 812 (by decide +kernel) rfl
theorem qw_825 : Cond.instanceMethod ⟨"ImageBakerModel", "isFresh", "(I)Z"⟩ ∈ wa_ALL := wa_in 825 (by decide +kernel) rfl
theorem qw_826 : Cond.selects "ImageBakerModel" ⟨"ImageBakerModel", "isFresh", "(I)Z"⟩ ⟨"ImageBakerModel", "isFresh", "(I)Z"⟩ ∈ wa_ALL := wa_in 826 (by decide +kernel) rfl
theorem qw_827 : Cond.code ⟨"ImageBakerModel", "isFresh", "(I)Z"⟩ prog_7_method_20_code 2 (Option.some FieldType.boolean) ∈ wa_ALL := wa_in 827 (by decide +kernel) rfl
theorem qw_824 : Cond.methodLink "ImageBakerLaw" 114 ⟨"ImageBakerModel", "isFresh", "(I)Z"⟩ ∈ wa_ALL := wa_in 824 (by decide +kernel) rfl
theorem qw_829 : Cond.instanceMethod ⟨"ImageBakerModel", "isFreshAnew", "(I)Z"⟩ ∈ wa_ALL := wa_in 829 (by decide +kernel) rfl
theorem qw_830 : Cond.selects "ImageBakerModel" ⟨"ImageBakerModel", "isFreshAnew", "(I)Z"⟩ ⟨"ImageBakerModel", "isFreshAnew", "(I)Z"⟩ ∈ wa_ALL := wa_in 830 (by decide +kernel) rfl
theorem qw_831 : Cond.code ⟨"ImageBakerModel", "isFreshAnew", "(I)Z"⟩ prog_7_method_21_code 2 (Option.some FieldType.boolean) ∈ wa_ALL := wa_in 831 (by decide +kernel) rfl
theorem qw_828 : Cond.methodLink "ImageBakerLaw" 117 ⟨"ImageBakerModel", "isFreshAnew", "(I)Z"⟩ ∈ wa_ALL := wa_in 828 (by decide +kernel) rfl
theorem qw_149 : Cond.instanceMethod ⟨"ImageBaker", "layers", "()I"⟩ ∈ wa_ALL := wa_in 149 (by decide +kernel) rfl
theorem qw_150 : Cond.selects "ImageBaker" ⟨"ImageBaker", "layers", "()I"⟩ ⟨"ImageBaker", "layers", "()I"⟩ ∈ wa_ALL := wa_in 150 (by decide +kernel) rfl
theorem qw_151 : Cond.code ⟨"ImageBaker", "layers", "()I"⟩ prog_1_method_9_code 1 (Option.some FieldType.int) ∈ wa_ALL := wa_in 151 (by decide +kernel) rfl
theorem qw_148 : Cond.methodLink "ImageBakerLaw" 118 ⟨"ImageBaker", "layers", "()I"⟩ ∈ wa_ALL := wa_in 148 (by decide +kernel) rfl
theorem qw_833 : Cond.instanceMethod ⟨"ImageBakerModel", "layers", "()I"⟩ ∈ wa_ALL := wa_in 833 (by decide +kernel) rfl
theorem qw_834 : Cond.selects "ImageBakerModel" ⟨"ImageBakerModel", "layers", "()I"⟩ ⟨"ImageBakerModel", "layers", "()I"⟩ ∈ wa_ALL := wa_in 834 (by decide +kernel) rfl
theorem qw_835 : Cond.code ⟨"ImageBakerModel", "layers", "()I"⟩ prog_7_method_22_code 1 (Option.some FieldType.int) ∈ wa_ALL := wa_in 835 (by decide +kernel) rfl
theorem qw_832 : Cond.methodLink "ImageBakerLaw" 121 ⟨"ImageBakerModel", "layers", "()I"⟩ ∈ wa_ALL := wa_in 832 (by decide +kernel) rfl
theorem qw_153 : Cond.instanceMethod ⟨"ImageBaker", "bakes", "()I"⟩ ∈ wa_ALL := wa_in 153 (by decide +kernel) rfl
theorem qw_154 : Cond.selects "ImageBaker" ⟨"ImageBaker", "bakes", "()I"⟩ ⟨"ImageBaker", "bakes", "()I"⟩ ∈ wa_ALL := wa_in 154 (by decide +kernel) rfl
theorem qw_155 : Cond.code ⟨"ImageBaker", "bakes", "()I"⟩ prog_1_method_10_code 1 (Option.some FieldType.int) ∈ wa_ALL := wa_in 155 (by decide +kernel) rfl
theorem qw_152 : Cond.methodLink "ImageBakerLaw" 122 ⟨"ImageBaker", "bakes", "()I"⟩ ∈ wa_ALL := wa_in 152 (by decide +kernel) rfl
theorem qw_837 : Cond.instanceMethod ⟨"ImageBakerModel", "bakes", "()I"⟩ ∈ wa_ALL := wa_in 837 (by decide +kernel) rfl
theorem qw_838 : Cond.selects "ImageBakerModel" ⟨"ImageBakerModel", "bakes", "()I"⟩ ⟨"ImageBakerModel", "bakes", "()I"⟩ ∈ wa_ALL := wa_in 838 (by decide +kernel) rfl
theorem qw_839 : Cond.code ⟨"ImageBakerModel", "bakes", "()I"⟩ prog_7_method_23_code 1 (Option.some FieldType.int) ∈ wa_ALL := wa_in 839 (by decide +kernel) rfl
theorem qw_836 : Cond.methodLink "ImageBakerLaw" 125 ⟨"ImageBakerModel", "bakes", "()I"⟩ ∈ wa_ALL := wa_in 836 (by decide +kernel) rfl
theorem qw_841 : Cond.instanceMethod ⟨"ImageBakerModel", "latest", "(I)I"⟩ ∈ wa_ALL := wa_in 841 (by decide +kernel) rfl
theorem qw_842 : Cond.selects "ImageBakerModel" ⟨"ImageBakerModel", "latest", "(I)I"⟩ ⟨"ImageBakerModel", "latest", "(I)I"⟩ ∈ wa_ALL := wa_in 842 (by decide +kernel) rfl
theorem qw_843 : Cond.code ⟨"ImageBakerModel", "latest", "(I)I"⟩ prog_7_method_24_code 2 (Option.some FieldType.int) ∈ wa_ALL := wa_in 843 (by decide +kernel) rfl
theorem qw_840 : Cond.methodLink "ImageBakerLaw" 128 ⟨"ImageBakerModel", "latest", "(I)I"⟩ ∈ wa_ALL := wa_in 840 (by decide +kernel) rfl
theorem qw_845 : Cond.instanceMethod ⟨"ImageBakerModel", "top", "(I)I"⟩ ∈ wa_ALL := wa_in 845 (by decide +kernel) rfl
theorem qw_846 : Cond.selects "ImageBakerModel" ⟨"ImageBakerModel", "top", "(I)I"⟩ ⟨"ImageBakerModel", "top", "(I)I"⟩ ∈ wa_ALL := wa_in 846 (by decide +kernel) rfl
theorem qw_847 : Cond.code ⟨"ImageBakerModel", "top", "(I)I"⟩ prog_7_method_25_code 2 (Option.some FieldType.int) ∈ wa_ALL := wa_in 847 (by decide +kernel) rfl
theorem qw_844 : Cond.methodLink "ImageBakerLaw" 131 ⟨"ImageBakerModel", "top", "(I)I"⟩ ∈ wa_ALL := wa_in 844 (by decide +kernel) rfl
theorem qw_853 : Cond.instanceMethod ⟨"ImageBakerModel", "test", "(IZ)Z"⟩ ∈ wa_ALL := wa_in 853 (by decide +kernel) rfl
theorem qw_854 : Cond.selects "ImageBakerModel" ⟨"ImageBakerModel", "test", "(IZ)Z"⟩ ⟨"ImageBakerModel", "test", "(IZ)Z"⟩ ∈ wa_ALL := wa_in 854 (by decide +kernel) rfl
theorem qw_855 : Cond.code ⟨"ImageBakerModel", "test", "(IZ)Z"⟩ prog_7_method_28_code 4 (Option.some FieldType.boolean) ∈ wa_ALL := wa_in 855 (by decide +kernel) rfl
theorem qw_852 : Cond.methodLink "ImageBakerLaw" 135 ⟨"ImageBakerModel", "test", "(IZ)Z"⟩ ∈ wa_ALL := wa_in 852 (by decide +kernel) rfl
theorem qw_857 : Cond.instanceMethod ⟨"ImageBakerModel", "hold", "(I)I"⟩ ∈ wa_ALL := wa_in 857 (by decide +kernel) rfl
theorem qw_858 : Cond.selects "ImageBakerModel" ⟨"ImageBakerModel", "hold", "(I)I"⟩ ⟨"ImageBakerModel", "hold", "(I)I"⟩ ∈ wa_ALL := wa_in 858 (by decide +kernel) rfl
theorem qw_859 : Cond.code ⟨"ImageBakerModel", "hold", "(I)I"⟩ prog_7_method_29_code 3 (Option.some FieldType.int) ∈ wa_ALL := wa_in 859 (by decide +kernel) rfl
theorem qw_856 : Cond.methodLink "ImageBakerLaw" 138 ⟨"ImageBakerModel", "hold", "(I)I"⟩ ∈ wa_ALL := wa_in 856 (by decide +kernel) rfl
theorem qw_865 : Cond.instanceMethod ⟨"ImageBakerModel", "raise", "(I)I"⟩ ∈ wa_ALL := wa_in 865 (by decide +kernel) rfl
theorem qw_866 : Cond.selects "ImageBakerModel" ⟨"ImageBakerModel", "raise", "(I)I"⟩ ⟨"ImageBakerModel", "raise", "(I)I"⟩ ∈ wa_ALL := wa_in 866 (by decide +kernel) rfl
theorem qw_867 : Cond.code ⟨"ImageBakerModel", "raise", "(I)I"⟩ prog_7_method_30_code 3 (Option.some FieldType.int) ∈ wa_ALL := wa_in 867 (by decide +kernel) rfl
theorem qw_864 : Cond.methodLink "ImageBakerLaw" 141 ⟨"ImageBakerModel", "raise", "(I)I"⟩ ∈ wa_ALL := wa_in 864 (by decide +kernel) rfl
theorem qw_869 : Cond.instanceMethod ⟨"ImageBakerModel", "copy", "(II)I"⟩ ∈ wa_ALL := wa_in 869 (by decide +kernel) rfl
theorem qw_870 : Cond.selects "ImageBakerModel" ⟨"ImageBakerModel", "copy", "(II)I"⟩ ⟨"ImageBakerModel", "copy", "(II)I"⟩ ∈ wa_ALL := wa_in 870 (by decide +kernel) rfl
theorem qw_871 : Cond.code ⟨"ImageBakerModel", "copy", "(II)I"⟩ prog_7_method_31_code 5 (Option.some FieldType.int) ∈ wa_ALL := wa_in 871 (by decide +kernel) rfl
theorem qw_868 : Cond.methodLink "ImageBakerLaw" 144 ⟨"ImageBakerModel", "copy", "(II)I"⟩ ∈ wa_ALL := wa_in 868 (by decide +kernel) rfl
theorem qw_873 : Cond.instanceMethod ⟨"ImageBakerModel", "setRules", "(IIII)V"⟩ ∈ wa_ALL := wa_in 873 (by decide +kernel) rfl
theorem qw_874 : Cond.selects "ImageBakerModel" ⟨"ImageBakerModel", "setRules", "(IIII)V"⟩ ⟨"ImageBakerModel", "setRules", "(IIII)V"⟩ ∈ wa_ALL := wa_in 874 (by decide +kernel) rfl
theorem qw_875 : Cond.code ⟨"ImageBakerModel", "setRules", "(IIII)V"⟩ prog_7_method_32_code 6 (none) ∈ wa_ALL := wa_in 875 (by decide +kernel) rfl
theorem qw_872 : Cond.methodLink "ImageBakerLaw" 148 ⟨"ImageBakerModel", "setRules", "(IIII)V"⟩ ∈ wa_ALL := wa_in 872 (by decide +kernel) rfl
theorem qw_877 : Cond.instanceMethod ⟨"ImageBakerModel", "pass", "(I)I"⟩ ∈ wa_ALL := wa_in 877 (by decide +kernel) rfl
theorem qw_878 : Cond.selects "ImageBakerModel" ⟨"ImageBakerModel", "pass", "(I)I"⟩ ⟨"ImageBakerModel", "pass", "(I)I"⟩ ∈ wa_ALL := wa_in 878 (by decide +kernel) rfl
theorem qw_879 : Cond.code ⟨"ImageBakerModel", "pass", "(I)I"⟩ prog_7_method_33_code 5 (Option.some FieldType.int) ∈ wa_ALL := wa_in 879 (by decide +kernel) rfl
theorem qw_876 : Cond.methodLink "ImageBakerLaw" 151 ⟨"ImageBakerModel", "pass", "(I)I"⟩ ∈ wa_ALL := wa_in 876 (by decide +kernel) rfl
theorem qw_881 : Cond.instanceMethod ⟨"ImageBakerModel", "state", "(I)I"⟩ ∈ wa_ALL := wa_in 881 (by decide +kernel) rfl
theorem qw_882 : Cond.selects "ImageBakerModel" ⟨"ImageBakerModel", "state", "(I)I"⟩ ⟨"ImageBakerModel", "state", "(I)I"⟩ ∈ wa_ALL := wa_in 882 (by decide +kernel) rfl
theorem qw_883 : Cond.code ⟨"ImageBakerModel", "state", "(I)I"⟩ prog_7_method_34_code 2 (Option.some FieldType.int) ∈ wa_ALL := wa_in 883 (by decide +kernel) rfl
theorem qw_880 : Cond.methodLink "ImageBakerLaw" 154 ⟨"ImageBakerModel", "state", "(I)I"⟩ ∈ wa_ALL := wa_in 880 (by decide +kernel) rfl
theorem qw_889 : Cond.instanceMethod ⟨"ImageBakerModel", "start", "(III)I"⟩ ∈ wa_ALL := wa_in 889 (by decide +kernel) rfl
theorem qw_890 : Cond.selects "ImageBakerModel" ⟨"ImageBakerModel", "start", "(III)I"⟩ ⟨"ImageBakerModel", "start", "(III)I"⟩ ∈ wa_ALL := wa_in 890 (by decide +kernel) rfl
theorem qw_891 : Cond.code ⟨"ImageBakerModel", "start", "(III)I"⟩ prog_7_method_36_code 7 (Option.some FieldType.int) ∈ wa_ALL := wa_in 891 (by decide +kernel) rfl
theorem qw_888 : Cond.methodLink "ImageBakerLaw" 158 ⟨"ImageBakerModel", "start", "(III)I"⟩ ∈ wa_ALL := wa_in 888 (by decide +kernel) rfl
theorem qw_897 : Cond.instanceMethod ⟨"ImageBakerModel", "renew", "(I)I"⟩ ∈ wa_ALL := wa_in 897 (by decide +kernel) rfl
theorem qw_898 : Cond.selects "ImageBakerModel" ⟨"ImageBakerModel", "renew", "(I)I"⟩ ⟨"ImageBakerModel", "renew", "(I)I"⟩ ∈ wa_ALL := wa_in 898 (by decide +kernel) rfl
theorem qw_899 : Cond.code ⟨"ImageBakerModel", "renew", "(I)I"⟩ prog_7_method_39_code 3 (Option.some FieldType.int) ∈ wa_ALL := wa_in 899 (by decide +kernel) rfl
theorem qw_896 : Cond.methodLink "ImageBakerLaw" 161 ⟨"ImageBakerModel", "renew", "(I)I"⟩ ∈ wa_ALL := wa_in 896 (by decide +kernel) rfl
theorem qw_909 : Cond.instanceMethod ⟨"ImageBakerModel", "stop", "(I)I"⟩ ∈ wa_ALL := wa_in 909 (by decide +kernel) rfl
theorem qw_910 : Cond.selects "ImageBakerModel" ⟨"ImageBakerModel", "stop", "(I)I"⟩ ⟨"ImageBakerModel", "stop", "(I)I"⟩ ∈ wa_ALL := wa_in 910 (by decide +kernel) rfl
theorem qw_911 : Cond.code ⟨"ImageBakerModel", "stop", "(I)I"⟩ prog_7_method_40_code 3 (Option.some FieldType.int) ∈ wa_ALL := wa_in 911 (by decide +kernel) rfl
theorem qw_908 : Cond.methodLink "ImageBakerLaw" 164 ⟨"ImageBakerModel", "stop", "(I)I"⟩ ∈ wa_ALL := wa_in 908 (by decide +kernel) rfl
theorem qw_913 : Cond.instanceMethod ⟨"ImageBakerModel", "runsFrom", "(I)I"⟩ ∈ wa_ALL := wa_in 913 (by decide +kernel) rfl
theorem qw_914 : Cond.selects "ImageBakerModel" ⟨"ImageBakerModel", "runsFrom", "(I)I"⟩ ⟨"ImageBakerModel", "runsFrom", "(I)I"⟩ ∈ wa_ALL := wa_in 914 (by decide +kernel) rfl
theorem qw_915 : Cond.code ⟨"ImageBakerModel", "runsFrom", "(I)I"⟩ prog_7_method_41_code 2 (Option.some FieldType.int) ∈ wa_ALL := wa_in 915 (by decide +kernel) rfl
theorem qw_912 : Cond.methodLink "ImageBakerLaw" 167 ⟨"ImageBakerModel", "runsFrom", "(I)I"⟩ ∈ wa_ALL := wa_in 912 (by decide +kernel) rfl
theorem qw_157 : Cond.instanceMethod ⟨"ImageBaker", "old", "()I"⟩ ∈ wa_ALL := wa_in 157 (by decide +kernel) rfl
theorem qw_158 : Cond.selects "ImageBaker" ⟨"ImageBaker", "old", "()I"⟩ ⟨"ImageBaker", "old", "()I"⟩ ∈ wa_ALL := wa_in 158 (by decide +kernel) rfl
theorem qw_159 : Cond.code ⟨"ImageBaker", "old", "()I"⟩ prog_1_method_24_code 1 (Option.some FieldType.int) ∈ wa_ALL := wa_in 159 (by decide +kernel) rfl
theorem qw_156 : Cond.methodLink "ImageBakerLaw" 168 ⟨"ImageBaker", "old", "()I"⟩ ∈ wa_ALL := wa_in 156 (by decide +kernel) rfl
theorem qw_917 : Cond.instanceMethod ⟨"ImageBakerModel", "old", "()I"⟩ ∈ wa_ALL := wa_in 917 (by decide +kernel) rfl
theorem qw_918 : Cond.selects "ImageBakerModel" ⟨"ImageBakerModel", "old", "()I"⟩ ⟨"ImageBakerModel", "old", "()I"⟩ ∈ wa_ALL := wa_in 918 (by decide +kernel) rfl
theorem qw_919 : Cond.code ⟨"ImageBakerModel", "old", "()I"⟩ prog_7_method_43_code 3 (Option.some FieldType.int) ∈ wa_ALL := wa_in 919 (by decide +kernel) rfl
theorem qw_916 : Cond.methodLink "ImageBakerLaw" 171 ⟨"ImageBakerModel", "old", "()I"⟩ ∈ wa_ALL := wa_in 916 (by decide +kernel) rfl
theorem qw_925 : Cond.instanceMethod ⟨"ImageBakerModel", "oldAt", "(I)I"⟩ ∈ wa_ALL := wa_in 925 (by decide +kernel) rfl
theorem qw_926 : Cond.selects "ImageBakerModel" ⟨"ImageBakerModel", "oldAt", "(I)I"⟩ ⟨"ImageBakerModel", "oldAt", "(I)I"⟩ ∈ wa_ALL := wa_in 926 (by decide +kernel) rfl
theorem qw_927 : Cond.code ⟨"ImageBakerModel", "oldAt", "(I)I"⟩ prog_7_method_45_code 5 (Option.some FieldType.int) ∈ wa_ALL := wa_in 927 (by decide +kernel) rfl
theorem qw_924 : Cond.methodLink "ImageBakerLaw" 174 ⟨"ImageBakerModel", "oldAt", "(I)I"⟩ ∈ wa_ALL := wa_in 924 (by decide +kernel) rfl
theorem qw_186 : Cond.static ⟨"ImageBaker", "at", "([II)I"⟩ ∈ wa_ALL := wa_in 186 (by decide +kernel) rfl
theorem qw_187 : Cond.code ⟨"ImageBaker", "at", "([II)I"⟩ prog_1_method_51_code 2 (Option.some FieldType.int) ∈ wa_ALL := wa_in 187 (by decide +kernel) rfl
theorem qn_137 : Cond.methodLinkNest "ImageBaker$Bake" 29 ⟨"ImageBaker", "at", "([II)I"⟩ "ImageBaker" ∈ wa_NST := wa_inN 137 (by decide +kernel) rfl
theorem qw_50 : Cond.initialized "ImageBaker$Layers" ∈ wa_ALL := wa_in 50 (by decide +kernel) rfl
theorem qw_383 : Cond.instanceMethod ⟨"ImageBaker$Layers", "isOf", "(III)Z"⟩ ∈ wa_ALL := wa_in 383 (by decide +kernel) rfl
theorem qw_13 : Cond.selects "ImageBaker$Layers" ⟨"ImageBaker$Layers", "isOf", "(III)Z"⟩ ⟨"ImageBaker$Layers", "isOf", "(III)Z"⟩ ∈ wa_ALL := wa_in 13 (by decide +kernel) rfl
theorem qw_384 : Cond.code ⟨"ImageBaker$Layers", "isOf", "(III)Z"⟩ prog_4_method_4_code 4 (Option.some FieldType.boolean) ∈ wa_ALL := wa_in 384 (by decide +kernel) rfl
theorem qw_381 : Cond.methodLink "ImageBaker$Layers" 25 ⟨"ImageBaker$Layers", "isOf", "(III)Z"⟩ ∈ wa_ALL := wa_in 381 (by decide +kernel) rfl
theorem qw_379 : Cond.instanceMethod ⟨"ImageBaker$Layers", "find", "(III)I"⟩ ∈ wa_ALL := wa_in 379 (by decide +kernel) rfl
theorem qw_12 : Cond.selects "ImageBaker$Layers" ⟨"ImageBaker$Layers", "find", "(III)I"⟩ ⟨"ImageBaker$Layers", "find", "(III)I"⟩ ∈ wa_ALL := wa_in 12 (by decide +kernel) rfl
theorem qw_380 : Cond.code ⟨"ImageBaker$Layers", "find", "(III)I"⟩ prog_4_method_2_code 5 (Option.some FieldType.int) ∈ wa_ALL := wa_in 380 (by decide +kernel) rfl
theorem qw_399 : Cond.methodLink "ImageBaker$Layers" 29 ⟨"ImageBaker$Layers", "find", "(III)I"⟩ ∈ wa_ALL := wa_in 399 (by decide +kernel) rfl
theorem qn_337 : Cond.methodLinkNest "ImageBaker$Layers" 33 ⟨"ImageBaker", "at", "([II)I"⟩ "ImageBaker" ∈ wa_NST := wa_inN 337 (by decide +kernel) rfl
theorem qw_206 : Cond.instanceMethod ⟨"ImageBaker", "imageAt", "(I)LImageBaker$Image;"⟩ ∈ wa_ALL := wa_in 206 (by decide +kernel) rfl
theorem qw_7 : Cond.selects "ImageBaker" ⟨"ImageBaker", "imageAt", "(I)LImageBaker$Image;"⟩ ⟨"ImageBaker", "imageAt", "(I)LImageBaker$Image;"⟩ ∈ wa_ALL := wa_in 7 (by decide +kernel) rfl
theorem qw_207 : Cond.code ⟨"ImageBaker", "imageAt", "(I)LImageBaker$Image;"⟩ prog_1_method_26_code 3 (Option.some (FieldType.object "ImageBaker$Image")) ∈ wa_ALL := wa_in 207 (by decide +kernel) rfl
theorem qw_204 : Cond.methodLink "ImageBaker" 63 ⟨"ImageBaker", "imageAt", "(I)LImageBaker$Image;"⟩ ∈ wa_ALL := wa_in 204 (by decide +kernel) rfl
theorem qw_57 : Cond.initialized "ImageBaker$Image" ∈ wa_ALL := wa_in 57 (by decide +kernel) rfl
theorem qw_346 : Cond.instanceMethod ⟨"ImageBaker$Image", "takesStep", "(I)Z"⟩ ∈ wa_ALL := wa_in 346 (by decide +kernel) rfl
theorem qw_9 : Cond.selects "ImageBaker$Image" ⟨"ImageBaker$Image", "takesStep", "(I)Z"⟩ ⟨"ImageBaker$Image", "takesStep", "(I)Z"⟩ ∈ wa_ALL := wa_in 9 (by decide +kernel) rfl
theorem qw_347 : Cond.code ⟨"ImageBaker$Image", "takesStep", "(I)Z"⟩ prog_3_method_2_code 2 (Option.some FieldType.boolean) ∈ wa_ALL := wa_in 347 (by decide +kernel) rfl
theorem qn_296 : Cond.methodLinkNest "ImageBaker" 88 ⟨"ImageBaker$Image", "takesStep", "(I)Z"⟩ "ImageBaker" ∈ wa_NST := wa_inN 296 (by decide +kernel) rfl
theorem qw_367 : Cond.instanceMethod ⟨"ImageBaker", "needsBake", "(LImageBaker$Image;)Z"⟩ ∈ wa_ALL := wa_in 367 (by decide +kernel) rfl
theorem qw_10 : Cond.selects "ImageBaker" ⟨"ImageBaker", "needsBake", "(LImageBaker$Image;)Z"⟩ ⟨"ImageBaker", "needsBake", "(LImageBaker$Image;)Z"⟩ ∈ wa_ALL := wa_in 10 (by decide +kernel) rfl
theorem qw_368 : Cond.code ⟨"ImageBaker", "needsBake", "(LImageBaker$Image;)Z"⟩ prog_1_method_30_code 2 (Option.some FieldType.boolean) ∈ wa_ALL := wa_in 368 (by decide +kernel) rfl
theorem qw_365 : Cond.methodLink "ImageBaker" 109 ⟨"ImageBaker", "needsBake", "(LImageBaker$Image;)Z"⟩ ∈ wa_ALL := wa_in 365 (by decide +kernel) rfl
theorem qw_389 : Cond.instanceMethod ⟨"ImageBaker", "bakeIfNeeded", "(LImageBaker$Image;)V"⟩ ∈ wa_ALL := wa_in 389 (by decide +kernel) rfl
theorem qw_14 : Cond.selects "ImageBaker" ⟨"ImageBaker", "bakeIfNeeded", "(LImageBaker$Image;)V"⟩ ⟨"ImageBaker", "bakeIfNeeded", "(LImageBaker$Image;)V"⟩ ∈ wa_ALL := wa_in 14 (by decide +kernel) rfl
theorem qw_390 : Cond.code ⟨"ImageBaker", "bakeIfNeeded", "(LImageBaker$Image;)V"⟩ prog_1_method_31_code 4 (none) ∈ wa_ALL := wa_in 390 (by decide +kernel) rfl
theorem qw_387 : Cond.methodLink "ImageBaker" 118 ⟨"ImageBaker", "bakeIfNeeded", "(LImageBaker$Image;)V"⟩ ∈ wa_ALL := wa_in 387 (by decide +kernel) rfl
theorem qw_437 : Cond.static ⟨"ImageBaker", "numberOf", "(LImageBaker$Bake;)I"⟩ ∈ wa_ALL := wa_in 437 (by decide +kernel) rfl
theorem qw_438 : Cond.code ⟨"ImageBaker", "numberOf", "(LImageBaker$Bake;)I"⟩ prog_1_method_39_code 1 (Option.some FieldType.int) ∈ wa_ALL := wa_in 438 (by decide +kernel) rfl
theorem qw_436 : Cond.methodLink "ImageBaker" 122 ⟨"ImageBaker", "numberOf", "(LImageBaker$Bake;)I"⟩ ∈ wa_ALL := wa_in 436 (by decide +kernel) rfl
theorem qw_448 : Cond.instanceMethod ⟨"ImageBaker", "countBakesToCome", "()I"⟩ ∈ wa_ALL := wa_in 448 (by decide +kernel) rfl
theorem qw_17 : Cond.selects "ImageBaker" ⟨"ImageBaker", "countBakesToCome", "()I"⟩ ⟨"ImageBaker", "countBakesToCome", "()I"⟩ ∈ wa_ALL := wa_in 17 (by decide +kernel) rfl
theorem qw_449 : Cond.code ⟨"ImageBaker", "countBakesToCome", "()I"⟩ prog_1_method_32_code 7 (Option.some FieldType.int) ∈ wa_ALL := wa_in 449 (by decide +kernel) rfl
theorem qw_446 : Cond.methodLink "ImageBaker" 126 ⟨"ImageBaker", "countBakesToCome", "()I"⟩ ∈ wa_ALL := wa_in 446 (by decide +kernel) rfl
theorem qw_453 : Cond.instanceMethod ⟨"ImageBaker", "fillLine", "()V"⟩ ∈ wa_ALL := wa_in 453 (by decide +kernel) rfl
theorem qw_18 : Cond.selects "ImageBaker" ⟨"ImageBaker", "fillLine", "()V"⟩ ⟨"ImageBaker", "fillLine", "()V"⟩ ∈ wa_ALL := wa_in 18 (by decide +kernel) rfl
theorem qw_454 : Cond.code ⟨"ImageBaker", "fillLine", "()V"⟩ prog_1_method_33_code 3 (none) ∈ wa_ALL := wa_in 454 (by decide +kernel) rfl
theorem qw_451 : Cond.methodLink "ImageBaker" 132 ⟨"ImageBaker", "fillLine", "()V"⟩ ∈ wa_ALL := wa_in 451 (by decide +kernel) rfl
theorem qw_475 : Cond.instanceMethod ⟨"ImageBaker", "isMadeAsNow", "(LImageBaker$Image;)Z"⟩ ∈ wa_ALL := wa_in 475 (by decide +kernel) rfl
theorem qw_20 : Cond.selects "ImageBaker" ⟨"ImageBaker", "isMadeAsNow", "(LImageBaker$Image;)Z"⟩ ⟨"ImageBaker", "isMadeAsNow", "(LImageBaker$Image;)Z"⟩ ∈ wa_ALL := wa_in 20 (by decide +kernel) rfl
theorem qw_476 : Cond.code ⟨"ImageBaker", "isMadeAsNow", "(LImageBaker$Image;)Z"⟩ prog_1_method_35_code 6 (Option.some FieldType.boolean) ∈ wa_ALL := wa_in 476 (by decide +kernel) rfl
theorem qw_473 : Cond.methodLink "ImageBaker" 135 ⟨"ImageBaker", "isMadeAsNow", "(LImageBaker$Image;)Z"⟩ ∈ wa_ALL := wa_in 473 (by decide +kernel) rfl
theorem qw_506 : Cond.instanceMethod ⟨"ImageBaker", "bakeAt", "(I)LImageBaker$Bake;"⟩ ∈ wa_ALL := wa_in 506 (by decide +kernel) rfl
theorem qw_24 : Cond.selects "ImageBaker" ⟨"ImageBaker", "bakeAt", "(I)LImageBaker$Bake;"⟩ ⟨"ImageBaker", "bakeAt", "(I)LImageBaker$Bake;"⟩ ∈ wa_ALL := wa_in 24 (by decide +kernel) rfl
theorem qw_507 : Cond.code ⟨"ImageBaker", "bakeAt", "(I)LImageBaker$Bake;"⟩ prog_1_method_38_code 3 (Option.some (FieldType.object "ImageBaker$Bake")) ∈ wa_ALL := wa_in 507 (by decide +kernel) rfl
theorem qw_504 : Cond.methodLink "ImageBaker" 141 ⟨"ImageBaker", "bakeAt", "(I)LImageBaker$Bake;"⟩ ∈ wa_ALL := wa_in 504 (by decide +kernel) rfl
theorem qw_527 : Cond.instanceMethod ⟨"ImageBaker", "countMachinesFrom", "(LImageBaker$Bake;)I"⟩ ∈ wa_ALL := wa_in 527 (by decide +kernel) rfl
theorem qw_25 : Cond.selects "ImageBaker" ⟨"ImageBaker", "countMachinesFrom", "(LImageBaker$Bake;)I"⟩ ⟨"ImageBaker", "countMachinesFrom", "(LImageBaker$Bake;)I"⟩ ∈ wa_ALL := wa_in 25 (by decide +kernel) rfl
theorem qw_528 : Cond.code ⟨"ImageBaker", "countMachinesFrom", "(LImageBaker$Bake;)I"⟩ prog_1_method_42_code 7 (Option.some FieldType.int) ∈ wa_ALL := wa_in 528 (by decide +kernel) rfl
theorem qw_525 : Cond.methodLink "ImageBaker" 162 ⟨"ImageBaker", "countMachinesFrom", "(LImageBaker$Bake;)I"⟩ ∈ wa_ALL := wa_in 525 (by decide +kernel) rfl
theorem qw_59 : Cond.initialized "ImageBaker$Bake" ∈ wa_ALL := wa_in 59 (by decide +kernel) rfl
theorem qw_182 : Cond.instanceMethod ⟨"ImageBaker$Bake", "firstDayAt", "(I)I"⟩ ∈ wa_ALL := wa_in 182 (by decide +kernel) rfl
theorem qw_5 : Cond.selects "ImageBaker$Bake" ⟨"ImageBaker$Bake", "firstDayAt", "(I)I"⟩ ⟨"ImageBaker$Bake", "firstDayAt", "(I)I"⟩ ∈ wa_ALL := wa_in 5 (by decide +kernel) rfl
theorem qw_184 : Cond.code ⟨"ImageBaker$Bake", "firstDayAt", "(I)I"⟩ prog_2_method_2_code 2 (Option.some FieldType.int) ∈ wa_ALL := wa_in 184 (by decide +kernel) rfl
theorem qn_132 : Cond.methodLinkNest "ImageBaker" 172 ⟨"ImageBaker$Bake", "firstDayAt", "(I)I"⟩ "ImageBaker" ∈ wa_NST := wa_inN 132 (by decide +kernel) rfl
theorem qw_376 : Cond.methodLink "ImageBaker" 181 ⟨"ImageBaker", "at", "([II)I"⟩ ∈ wa_ALL := wa_in 376 (by decide +kernel) rfl
theorem qw_548 : Cond.instanceMethod ⟨"ImageBaker$Bake", "arriveAt", "(II)V"⟩ ∈ wa_ALL := wa_in 548 (by decide +kernel) rfl
theorem qw_26 : Cond.selects "ImageBaker$Bake" ⟨"ImageBaker$Bake", "arriveAt", "(II)V"⟩ ⟨"ImageBaker$Bake", "arriveAt", "(II)V"⟩ ∈ wa_ALL := wa_in 26 (by decide +kernel) rfl
theorem qw_549 : Cond.code ⟨"ImageBaker$Bake", "arriveAt", "(II)V"⟩ prog_2_method_3_code 3 (none) ∈ wa_ALL := wa_in 549 (by decide +kernel) rfl
theorem qn_498 : Cond.methodLinkNest "ImageBaker" 185 ⟨"ImageBaker$Bake", "arriveAt", "(II)V"⟩ "ImageBaker" ∈ wa_NST := wa_inN 498 (by decide +kernel) rfl
theorem qw_569 : Cond.instanceMethod ⟨"ImageBaker", "mustGo", "(LImageBaker$Bake;)Z"⟩ ∈ wa_ALL := wa_in 569 (by decide +kernel) rfl
theorem qw_27 : Cond.selects "ImageBaker" ⟨"ImageBaker", "mustGo", "(LImageBaker$Bake;)Z"⟩ ⟨"ImageBaker", "mustGo", "(LImageBaker$Bake;)Z"⟩ ∈ wa_ALL := wa_in 27 (by decide +kernel) rfl
theorem qw_570 : Cond.code ⟨"ImageBaker", "mustGo", "(LImageBaker$Bake;)Z"⟩ prog_1_method_41_code 2 (Option.some FieldType.boolean) ∈ wa_ALL := wa_in 570 (by decide +kernel) rfl
theorem qw_567 : Cond.methodLink "ImageBaker" 195 ⟨"ImageBaker", "mustGo", "(LImageBaker$Bake;)Z"⟩ ∈ wa_ALL := wa_in 567 (by decide +kernel) rfl
theorem qw_170 : Cond.instanceMethod ⟨"ImageBaker", "isTooOld", "(LImageBaker$Bake;)Z"⟩ ∈ wa_ALL := wa_in 170 (by decide +kernel) rfl
theorem qw_2 : Cond.selects "ImageBaker" ⟨"ImageBaker", "isTooOld", "(LImageBaker$Bake;)Z"⟩ ⟨"ImageBaker", "isTooOld", "(LImageBaker$Bake;)Z"⟩ ∈ wa_ALL := wa_in 2 (by decide +kernel) rfl
theorem qw_171 : Cond.code ⟨"ImageBaker", "isTooOld", "(LImageBaker$Bake;)Z"⟩ prog_1_method_40_code 2 (Option.some FieldType.boolean) ∈ wa_ALL := wa_in 171 (by decide +kernel) rfl
theorem qw_168 : Cond.methodLink "ImageBaker" 199 ⟨"ImageBaker", "isTooOld", "(LImageBaker$Bake;)Z"⟩ ∈ wa_ALL := wa_in 168 (by decide +kernel) rfl
theorem qw_174 : Cond.instanceMethod ⟨"ImageBaker", "bakeFor", "(LImageBaker$Image;II)LImageBaker$Bake;"⟩ ∈ wa_ALL := wa_in 174 (by decide +kernel) rfl
theorem qw_3 : Cond.selects "ImageBaker" ⟨"ImageBaker", "bakeFor", "(LImageBaker$Image;II)LImageBaker$Bake;"⟩ ⟨"ImageBaker", "bakeFor", "(LImageBaker$Image;II)LImageBaker$Bake;"⟩ ∈ wa_ALL := wa_in 3 (by decide +kernel) rfl
theorem qw_175 : Cond.code ⟨"ImageBaker", "bakeFor", "(LImageBaker$Image;II)LImageBaker$Bake;"⟩ prog_1_method_45_code 6 (Option.some (FieldType.object "ImageBaker$Bake")) ∈ wa_ALL := wa_in 175 (by decide +kernel) rfl
theorem qw_172 : Cond.methodLink "ImageBaker" 204 ⟨"ImageBaker", "bakeFor", "(LImageBaker$Image;II)LImageBaker$Bake;"⟩ ∈ wa_ALL := wa_in 172 (by decide +kernel) rfl
theorem qw_60 : Cond.initialized "ImageBaker$Machine" ∈ wa_ALL := wa_in 60 (by decide +kernel) rfl
theorem qw_622 : Cond.instanceMethod ⟨"ImageBaker", "runningAt", "(I)LImageBaker$Machine;"⟩ ∈ wa_ALL := wa_in 622 (by decide +kernel) rfl
theorem qw_28 : Cond.selects "ImageBaker" ⟨"ImageBaker", "runningAt", "(I)LImageBaker$Machine;"⟩ ⟨"ImageBaker", "runningAt", "(I)LImageBaker$Machine;"⟩ ∈ wa_ALL := wa_in 28 (by decide +kernel) rfl
theorem qw_623 : Cond.code ⟨"ImageBaker", "runningAt", "(I)LImageBaker$Machine;"⟩ prog_1_method_44_code 3 (Option.some (FieldType.object "ImageBaker$Machine")) ∈ wa_ALL := wa_in 623 (by decide +kernel) rfl
theorem qw_620 : Cond.methodLink "ImageBaker" 217 ⟨"ImageBaker", "runningAt", "(I)LImageBaker$Machine;"⟩ ∈ wa_ALL := wa_in 620 (by decide +kernel) rfl
theorem qw_626 : Cond.instanceMethod ⟨"ImageBaker", "machineAt", "(I)LImageBaker$Machine;"⟩ ∈ wa_ALL := wa_in 626 (by decide +kernel) rfl
theorem qw_29 : Cond.selects "ImageBaker" ⟨"ImageBaker", "machineAt", "(I)LImageBaker$Machine;"⟩ ⟨"ImageBaker", "machineAt", "(I)LImageBaker$Machine;"⟩ ∈ wa_ALL := wa_in 29 (by decide +kernel) rfl
theorem qw_627 : Cond.code ⟨"ImageBaker", "machineAt", "(I)LImageBaker$Machine;"⟩ prog_1_method_43_code 3 (Option.some (FieldType.object "ImageBaker$Machine")) ∈ wa_ALL := wa_in 627 (by decide +kernel) rfl
theorem qw_624 : Cond.methodLink "ImageBaker" 234 ⟨"ImageBaker", "machineAt", "(I)LImageBaker$Machine;"⟩ ∈ wa_ALL := wa_in 624 (by decide +kernel) rfl
theorem qw_162 : Cond.instanceMethod ⟨"ImageBaker", "fillWaiting", "()I"⟩ ∈ wa_ALL := wa_in 162 (by decide +kernel) rfl
theorem qw_0 : Cond.selects "ImageBaker" ⟨"ImageBaker", "fillWaiting", "()I"⟩ ⟨"ImageBaker", "fillWaiting", "()I"⟩ ∈ wa_ALL := wa_in 0 (by decide +kernel) rfl
theorem qw_163 : Cond.code ⟨"ImageBaker", "fillWaiting", "()I"⟩ prog_1_method_48_code 6 (Option.some FieldType.int) ∈ wa_ALL := wa_in 163 (by decide +kernel) rfl
theorem qw_160 : Cond.methodLink "ImageBaker" 237 ⟨"ImageBaker", "fillWaiting", "()I"⟩ ∈ wa_ALL := wa_in 160 (by decide +kernel) rfl
theorem qn_329 : Cond.methodLinkNest "ImageBaker" 250 ⟨"ImageBaker$Layers", "find", "(III)I"⟩ "ImageBaker" ∈ wa_NST := wa_inN 329 (by decide +kernel) rfl
theorem qw_397 : Cond.instanceMethod ⟨"ImageBaker$Layers", "findOrMake", "(III)I"⟩ ∈ wa_ALL := wa_in 397 (by decide +kernel) rfl
theorem qw_16 : Cond.selects "ImageBaker$Layers" ⟨"ImageBaker$Layers", "findOrMake", "(III)I"⟩ ⟨"ImageBaker$Layers", "findOrMake", "(III)I"⟩ ∈ wa_ALL := wa_in 16 (by decide +kernel) rfl
theorem qw_398 : Cond.code ⟨"ImageBaker$Layers", "findOrMake", "(III)I"⟩ prog_4_method_3_code 6 (Option.some FieldType.int) ∈ wa_ALL := wa_in 398 (by decide +kernel) rfl
theorem qn_347 : Cond.methodLinkNest "ImageBaker" 254 ⟨"ImageBaker$Layers", "findOrMake", "(III)I"⟩ "ImageBaker" ∈ wa_NST := wa_inN 347 (by decide +kernel) rfl
theorem qw_370 : Cond.static ⟨"ImageBaker", "beginOf", "(LImageBaker$Image;)I"⟩ ∈ wa_ALL := wa_in 370 (by decide +kernel) rfl
theorem qw_371 : Cond.code ⟨"ImageBaker", "beginOf", "(LImageBaker$Image;)I"⟩ prog_1_method_27_code 1 (Option.some FieldType.int) ∈ wa_ALL := wa_in 371 (by decide +kernel) rfl
theorem qw_369 : Cond.methodLink "ImageBaker" 257 ⟨"ImageBaker", "beginOf", "(LImageBaker$Image;)I"⟩ ∈ wa_ALL := wa_in 369 (by decide +kernel) rfl
theorem qw_374 : Cond.instanceMethod ⟨"ImageBaker", "topFrom", "(ILImageBaker$Image;)I"⟩ ∈ wa_ALL := wa_in 374 (by decide +kernel) rfl
theorem qw_11 : Cond.selects "ImageBaker" ⟨"ImageBaker", "topFrom", "(ILImageBaker$Image;)I"⟩ ⟨"ImageBaker", "topFrom", "(ILImageBaker$Image;)I"⟩ ∈ wa_ALL := wa_in 11 (by decide +kernel) rfl
theorem qw_375 : Cond.code ⟨"ImageBaker", "topFrom", "(ILImageBaker$Image;)I"⟩ prog_1_method_28_code 6 (Option.some FieldType.int) ∈ wa_ALL := wa_in 375 (by decide +kernel) rfl
theorem qw_372 : Cond.methodLink "ImageBaker" 261 ⟨"ImageBaker", "topFrom", "(ILImageBaker$Image;)I"⟩ ∈ wa_ALL := wa_in 372 (by decide +kernel) rfl
theorem qw_393 : Cond.instanceMethod ⟨"ImageBaker", "makeTopFrom", "(ILImageBaker$Image;)I"⟩ ∈ wa_ALL := wa_in 393 (by decide +kernel) rfl
theorem qw_15 : Cond.selects "ImageBaker" ⟨"ImageBaker", "makeTopFrom", "(ILImageBaker$Image;)I"⟩ ⟨"ImageBaker", "makeTopFrom", "(ILImageBaker$Image;)I"⟩ ∈ wa_ALL := wa_in 15 (by decide +kernel) rfl
theorem qw_394 : Cond.code ⟨"ImageBaker", "makeTopFrom", "(ILImageBaker$Image;)I"⟩ prog_1_method_29_code 6 (Option.some FieldType.int) ∈ wa_ALL := wa_in 394 (by decide +kernel) rfl
theorem qw_391 : Cond.methodLink "ImageBaker" 265 ⟨"ImageBaker", "makeTopFrom", "(ILImageBaker$Image;)I"⟩ ∈ wa_ALL := wa_in 391 (by decide +kernel) rfl
theorem qw_457 : Cond.instanceMethod ⟨"ImageBaker", "lineUpChildren", "(LImageBaker$Image;I)I"⟩ ∈ wa_ALL := wa_in 457 (by decide +kernel) rfl
theorem qw_19 : Cond.selects "ImageBaker" ⟨"ImageBaker", "lineUpChildren", "(LImageBaker$Image;I)I"⟩ ⟨"ImageBaker", "lineUpChildren", "(LImageBaker$Image;I)I"⟩ ∈ wa_ALL := wa_in 19 (by decide +kernel) rfl
theorem qw_458 : Cond.code ⟨"ImageBaker", "lineUpChildren", "(LImageBaker$Image;I)I"⟩ prog_1_method_34_code 8 (Option.some FieldType.int) ∈ wa_ALL := wa_in 458 (by decide +kernel) rfl
theorem qw_455 : Cond.methodLink "ImageBaker" 274 ⟨"ImageBaker", "lineUpChildren", "(LImageBaker$Image;I)I"⟩ ∈ wa_ALL := wa_in 455 (by decide +kernel) rfl
theorem qw_479 : Cond.instanceMethod ⟨"ImageBaker$Layers", "fillChain", "(I[I)I"⟩ ∈ wa_ALL := wa_in 479 (by decide +kernel) rfl
theorem qw_21 : Cond.selects "ImageBaker$Layers" ⟨"ImageBaker$Layers", "fillChain", "(I[I)I"⟩ ⟨"ImageBaker$Layers", "fillChain", "(I[I)I"⟩ ∈ wa_ALL := wa_in 21 (by decide +kernel) rfl
theorem qw_480 : Cond.code ⟨"ImageBaker$Layers", "fillChain", "(I[I)I"⟩ prog_4_method_5_code 5 (Option.some FieldType.int) ∈ wa_ALL := wa_in 480 (by decide +kernel) rfl
theorem qn_429 : Cond.methodLinkNest "ImageBaker" 278 ⟨"ImageBaker$Layers", "fillChain", "(I[I)I"⟩ "ImageBaker" ∈ wa_NST := wa_inN 429 (by decide +kernel) rfl
theorem qw_483 : Cond.instanceMethod ⟨"ImageBaker", "fillForefathers", "(LImageBaker$Image;)I"⟩ ∈ wa_ALL := wa_in 483 (by decide +kernel) rfl
theorem qw_22 : Cond.selects "ImageBaker" ⟨"ImageBaker", "fillForefathers", "(LImageBaker$Image;)I"⟩ ⟨"ImageBaker", "fillForefathers", "(LImageBaker$Image;)I"⟩ ∈ wa_ALL := wa_in 22 (by decide +kernel) rfl
theorem qw_484 : Cond.code ⟨"ImageBaker", "fillForefathers", "(LImageBaker$Image;)I"⟩ prog_1_method_36_code 4 (Option.some FieldType.int) ∈ wa_ALL := wa_in 484 (by decide +kernel) rfl
theorem qw_481 : Cond.methodLink "ImageBaker" 282 ⟨"ImageBaker", "fillForefathers", "(LImageBaker$Image;)I"⟩ ∈ wa_ALL := wa_in 481 (by decide +kernel) rfl
theorem qw_487 : Cond.instanceMethod ⟨"ImageBaker", "followSteps", "(LImageBaker$Image;II)I"⟩ ∈ wa_ALL := wa_in 487 (by decide +kernel) rfl
theorem qw_23 : Cond.selects "ImageBaker" ⟨"ImageBaker", "followSteps", "(LImageBaker$Image;II)I"⟩ ⟨"ImageBaker", "followSteps", "(LImageBaker$Image;II)I"⟩ ∈ wa_ALL := wa_in 23 (by decide +kernel) rfl
theorem qw_488 : Cond.code ⟨"ImageBaker", "followSteps", "(LImageBaker$Image;II)I"⟩ prog_1_method_37_code 7 (Option.some FieldType.int) ∈ wa_ALL := wa_in 488 (by decide +kernel) rfl
theorem qw_485 : Cond.methodLink "ImageBaker" 285 ⟨"ImageBaker", "followSteps", "(LImageBaker$Image;II)I"⟩ ∈ wa_ALL := wa_in 485 (by decide +kernel) rfl
theorem qn_441 : Cond.methodLinkNest "ImageBaker" 289 ⟨"ImageBaker$Layers", "isOf", "(III)Z"⟩ "ImageBaker" ∈ wa_NST := wa_inN 441 (by decide +kernel) rfl
theorem qw_178 : Cond.instanceMethod ⟨"ImageBaker", "canStart", "(LImageBaker$Bake;II)Z"⟩ ∈ wa_ALL := wa_in 178 (by decide +kernel) rfl
theorem qw_4 : Cond.selects "ImageBaker" ⟨"ImageBaker", "canStart", "(LImageBaker$Bake;II)Z"⟩ ⟨"ImageBaker", "canStart", "(LImageBaker$Bake;II)Z"⟩ ∈ wa_ALL := wa_in 4 (by decide +kernel) rfl
theorem qw_179 : Cond.code ⟨"ImageBaker", "canStart", "(LImageBaker$Bake;II)Z"⟩ prog_1_method_46_code 6 (Option.some FieldType.boolean) ∈ wa_ALL := wa_in 179 (by decide +kernel) rfl
theorem qw_176 : Cond.methodLink "ImageBaker" 303 ⟨"ImageBaker", "canStart", "(LImageBaker$Bake;II)Z"⟩ ∈ wa_ALL := wa_in 176 (by decide +kernel) rfl
theorem qw_166 : Cond.instanceMethod ⟨"ImageBaker", "mustRenew", "(LImageBaker$Machine;)Z"⟩ ∈ wa_ALL := wa_in 166 (by decide +kernel) rfl
theorem qw_1 : Cond.selects "ImageBaker" ⟨"ImageBaker", "mustRenew", "(LImageBaker$Machine;)Z"⟩ ⟨"ImageBaker", "mustRenew", "(LImageBaker$Machine;)Z"⟩ ∈ wa_ALL := wa_in 1 (by decide +kernel) rfl
theorem qw_167 : Cond.code ⟨"ImageBaker", "mustRenew", "(LImageBaker$Machine;)Z"⟩ prog_1_method_47_code 3 (Option.some FieldType.boolean) ∈ wa_ALL := wa_in 167 (by decide +kernel) rfl
theorem qw_164 : Cond.methodLink "ImageBaker" 307 ⟨"ImageBaker", "mustRenew", "(LImageBaker$Machine;)Z"⟩ ∈ wa_ALL := wa_in 164 (by decide +kernel) rfl
theorem qw_190 : Cond.instanceMethod ⟨"ImageBaker", "insertWaiting", "(LImageBaker$Machine;I)V"⟩ ∈ wa_ALL := wa_in 190 (by decide +kernel) rfl
theorem qw_6 : Cond.selects "ImageBaker" ⟨"ImageBaker", "insertWaiting", "(LImageBaker$Machine;I)V"⟩ ⟨"ImageBaker", "insertWaiting", "(LImageBaker$Machine;I)V"⟩ ∈ wa_ALL := wa_in 6 (by decide +kernel) rfl
theorem qw_191 : Cond.code ⟨"ImageBaker", "insertWaiting", "(LImageBaker$Machine;I)V"⟩ prog_1_method_49_code 4 (none) ∈ wa_ALL := wa_in 191 (by decide +kernel) rfl
theorem qw_188 : Cond.methodLink "ImageBaker" 311 ⟨"ImageBaker", "insertWaiting", "(LImageBaker$Machine;I)V"⟩ ∈ wa_ALL := wa_in 188 (by decide +kernel) rfl
theorem qw_193 : Cond.static ⟨"ImageBaker", "isAhead", "(LImageBaker$Bake;LImageBaker$Machine;)Z"⟩ ∈ wa_ALL := wa_in 193 (by decide +kernel) rfl
theorem qw_194 : Cond.code ⟨"ImageBaker", "isAhead", "(LImageBaker$Bake;LImageBaker$Machine;)Z"⟩ prog_1_method_50_code 2 (Option.some FieldType.boolean) ∈ wa_ALL := wa_in 194 (by decide +kernel) rfl
theorem qw_192 : Cond.methodLink "ImageBaker" 315 ⟨"ImageBaker", "isAhead", "(LImageBaker$Bake;LImageBaker$Machine;)Z"⟩ ∈ wa_ALL := wa_in 192 (by decide +kernel) rfl
theorem qw_766 : Cond.static ⟨"ImageBakerModel", "isIn", "(III)Z"⟩ ∈ wa_ALL := wa_in 766 (by decide +kernel) rfl
theorem qw_767 : Cond.code ⟨"ImageBakerModel", "isIn", "(III)Z"⟩ prog_7_method_4_code 3 (Option.some FieldType.boolean) ∈ wa_ALL := wa_in 767 (by decide +kernel) rfl
theorem qw_765 : Cond.methodLink "ImageBakerModel" 96 ⟨"ImageBakerModel", "isIn", "(III)Z"⟩ ∈ wa_ALL := wa_in 765 (by decide +kernel) rfl
theorem qw_770 : Cond.instanceMethod ⟨"ImageBakerModel", "isFine", "(I)Z"⟩ ∈ wa_ALL := wa_in 770 (by decide +kernel) rfl
theorem qw_30 : Cond.selects "ImageBakerModel" ⟨"ImageBakerModel", "isFine", "(I)Z"⟩ ⟨"ImageBakerModel", "isFine", "(I)Z"⟩ ∈ wa_ALL := wa_in 30 (by decide +kernel) rfl
theorem qw_771 : Cond.code ⟨"ImageBakerModel", "isFine", "(I)Z"⟩ prog_7_method_3_code 2 (Option.some FieldType.boolean) ∈ wa_ALL := wa_in 771 (by decide +kernel) rfl
theorem qw_768 : Cond.methodLink "ImageBakerModel" 103 ⟨"ImageBakerModel", "isFine", "(I)Z"⟩ ∈ wa_ALL := wa_in 768 (by decide +kernel) rfl
theorem qw_778 : Cond.instanceMethod ⟨"ImageBakerModel", "isImage", "(I)Z"⟩ ∈ wa_ALL := wa_in 778 (by decide +kernel) rfl
theorem qw_31 : Cond.selects "ImageBakerModel" ⟨"ImageBakerModel", "isImage", "(I)Z"⟩ ⟨"ImageBakerModel", "isImage", "(I)Z"⟩ ∈ wa_ALL := wa_in 31 (by decide +kernel) rfl
theorem qw_779 : Cond.code ⟨"ImageBakerModel", "isImage", "(I)Z"⟩ prog_7_method_5_code 2 (Option.some FieldType.boolean) ∈ wa_ALL := wa_in 779 (by decide +kernel) rfl
theorem qw_776 : Cond.methodLink "ImageBakerModel" 107 ⟨"ImageBakerModel", "isImage", "(I)Z"⟩ ∈ wa_ALL := wa_in 776 (by decide +kernel) rfl
theorem qw_802 : Cond.instanceMethod ⟨"ImageBakerModel", "baseOf", "(I)I"⟩ ∈ wa_ALL := wa_in 802 (by decide +kernel) rfl
theorem qw_35 : Cond.selects "ImageBakerModel" ⟨"ImageBakerModel", "baseOf", "(I)I"⟩ ⟨"ImageBakerModel", "baseOf", "(I)I"⟩ ∈ wa_ALL := wa_in 35 (by decide +kernel) rfl
theorem qw_803 : Cond.code ⟨"ImageBakerModel", "baseOf", "(I)I"⟩ prog_7_method_12_code 2 (Option.some FieldType.int) ∈ wa_ALL := wa_in 803 (by decide +kernel) rfl
theorem qw_800 : Cond.methodLink "ImageBakerModel" 113 ⟨"ImageBakerModel", "baseOf", "(I)I"⟩ ∈ wa_ALL := wa_in 800 (by decide +kernel) rfl
theorem qw_806 : Cond.instanceMethod ⟨"ImageBakerModel", "find", "(III)I"⟩ ∈ wa_ALL := wa_in 806 (by decide +kernel) rfl
theorem qw_36 : Cond.selects "ImageBakerModel" ⟨"ImageBakerModel", "find", "(III)I"⟩ ⟨"ImageBakerModel", "find", "(III)I"⟩ ∈ wa_ALL := wa_in 36 (by decide +kernel) rfl
theorem qw_807 : Cond.code ⟨"ImageBakerModel", "find", "(III)I"⟩ prog_7_method_10_code 5 (Option.some FieldType.int) ∈ wa_ALL := wa_in 807 (by decide +kernel) rfl
theorem qw_804 : Cond.methodLink "ImageBakerModel" 117 ⟨"ImageBakerModel", "find", "(III)I"⟩ ∈ wa_ALL := wa_in 804 (by decide +kernel) rfl
theorem qw_798 : Cond.instanceMethod ⟨"ImageBakerModel", "topNow", "(I)I"⟩ ∈ wa_ALL := wa_in 798 (by decide +kernel) rfl
theorem qw_34 : Cond.selects "ImageBakerModel" ⟨"ImageBakerModel", "topNow", "(I)I"⟩ ⟨"ImageBakerModel", "topNow", "(I)I"⟩ ∈ wa_ALL := wa_in 34 (by decide +kernel) rfl
theorem qw_799 : Cond.code ⟨"ImageBakerModel", "topNow", "(I)I"⟩ prog_7_method_13_code 4 (Option.some FieldType.int) ∈ wa_ALL := wa_in 799 (by decide +kernel) rfl
theorem qw_796 : Cond.methodLink "ImageBakerModel" 121 ⟨"ImageBakerModel", "topNow", "(I)I"⟩ ∈ wa_ALL := wa_in 796 (by decide +kernel) rfl
theorem qw_790 : Cond.instanceMethod ⟨"ImageBakerModel", "hasBase", "(I)Z"⟩ ∈ wa_ALL := wa_in 790 (by decide +kernel) rfl
theorem qw_32 : Cond.selects "ImageBakerModel" ⟨"ImageBakerModel", "hasBase", "(I)Z"⟩ ⟨"ImageBakerModel", "hasBase", "(I)Z"⟩ ∈ wa_ALL := wa_in 32 (by decide +kernel) rfl
theorem qw_791 : Cond.code ⟨"ImageBakerModel", "hasBase", "(I)Z"⟩ prog_7_method_11_code 2 (Option.some FieldType.boolean) ∈ wa_ALL := wa_in 791 (by decide +kernel) rfl
theorem qw_788 : Cond.methodLink "ImageBakerModel" 124 ⟨"ImageBakerModel", "hasBase", "(I)Z"⟩ ∈ wa_ALL := wa_in 788 (by decide +kernel) rfl
theorem qw_794 : Cond.instanceMethod ⟨"ImageBakerModel", "isAlike", "(I)Z"⟩ ∈ wa_ALL := wa_in 794 (by decide +kernel) rfl
theorem qw_33 : Cond.selects "ImageBakerModel" ⟨"ImageBakerModel", "isAlike", "(I)Z"⟩ ⟨"ImageBakerModel", "isAlike", "(I)Z"⟩ ∈ wa_ALL := wa_in 33 (by decide +kernel) rfl
theorem qw_795 : Cond.code ⟨"ImageBakerModel", "isAlike", "(I)Z"⟩ prog_7_method_14_code 2 (Option.some FieldType.boolean) ∈ wa_ALL := wa_in 795 (by decide +kernel) rfl
theorem qw_792 : Cond.methodLink "ImageBakerModel" 127 ⟨"ImageBakerModel", "isAlike", "(I)Z"⟩ ∈ wa_ALL := wa_in 792 (by decide +kernel) rfl
theorem qw_810 : Cond.instanceMethod ⟨"ImageBakerModel", "makes", "(I)V"⟩ ∈ wa_ALL := wa_in 810 (by decide +kernel) rfl
theorem qw_37 : Cond.selects "ImageBakerModel" ⟨"ImageBakerModel", "makes", "(I)V"⟩ ⟨"ImageBakerModel", "makes", "(I)V"⟩ ∈ wa_ALL := wa_in 37 (by decide +kernel) rfl
theorem qw_811 : Cond.code ⟨"ImageBakerModel", "makes", "(I)V"⟩ prog_7_method_16_code 5 (none) ∈ wa_ALL := wa_in 811 (by decide +kernel) rfl
theorem qw_808 : Cond.methodLink "ImageBakerModel" 133 ⟨"ImageBakerModel", "makes", "(I)V"⟩ ∈ wa_ALL := wa_in 808 (by decide +kernel) rfl
theorem qw_818 : Cond.instanceMethod ⟨"ImageBakerModel", "joins", "(II)I"⟩ ∈ wa_ALL := wa_in 818 (by decide +kernel) rfl
theorem qw_38 : Cond.selects "ImageBakerModel" ⟨"ImageBakerModel", "joins", "(II)I"⟩ ⟨"ImageBakerModel", "joins", "(II)I"⟩ ∈ wa_ALL := wa_in 38 (by decide +kernel) rfl
theorem qw_819 : Cond.code ⟨"ImageBakerModel", "joins", "(II)I"⟩ prog_7_method_18_code 5 (Option.some FieldType.int) ∈ wa_ALL := wa_in 819 (by decide +kernel) rfl
theorem qw_816 : Cond.methodLink "ImageBakerModel" 137 ⟨"ImageBakerModel", "joins", "(II)I"⟩ ∈ wa_ALL := wa_in 816 (by decide +kernel) rfl
theorem qw_822 : Cond.instanceMethod ⟨"ImageBakerModel", "isFreshNow", "(I)Z"⟩ ∈ wa_ALL := wa_in 822 (by decide +kernel) rfl
theorem qw_39 : Cond.selects "ImageBakerModel" ⟨"ImageBakerModel", "isFreshNow", "(I)Z"⟩ ⟨"ImageBakerModel", "isFreshNow", "(I)Z"⟩ ∈ wa_ALL := wa_in 39 (by decide +kernel) rfl
theorem qw_823 : Cond.code ⟨"ImageBakerModel", "isFreshNow", "(I)Z"⟩ prog_7_method_15_code 4 (Option.some FieldType.boolean) ∈ wa_ALL := wa_in 823 (by decide +kernel) rfl
theorem qw_820 : Cond.methodLink "ImageBakerModel" 141 ⟨"ImageBakerModel", "isFreshNow", "(I)Z"⟩ ∈ wa_ALL := wa_in 820 (by decide +kernel) rfl
theorem qw_850 : Cond.instanceMethod ⟨"ImageBakerModel", "isBake", "(I)Z"⟩ ∈ wa_ALL := wa_in 850 (by decide +kernel) rfl
theorem qw_40 : Cond.selects "ImageBakerModel" ⟨"ImageBakerModel", "isBake", "(I)Z"⟩ ⟨"ImageBakerModel", "isBake", "(I)Z"⟩ ∈ wa_ALL := wa_in 40 (by decide +kernel) rfl
theorem qw_851 : Cond.code ⟨"ImageBakerModel", "isBake", "(I)Z"⟩ prog_7_method_6_code 2 (Option.some FieldType.boolean) ∈ wa_ALL := wa_in 851 (by decide +kernel) rfl
theorem qw_848 : Cond.methodLink "ImageBakerModel" 144 ⟨"ImageBakerModel", "isBake", "(I)Z"⟩ ∈ wa_ALL := wa_in 848 (by decide +kernel) rfl
theorem qw_862 : Cond.instanceMethod ⟨"ImageBakerModel", "running", "(I)I"⟩ ∈ wa_ALL := wa_in 862 (by decide +kernel) rfl
theorem qw_41 : Cond.selects "ImageBakerModel" ⟨"ImageBakerModel", "running", "(I)I"⟩ ⟨"ImageBakerModel", "running", "(I)I"⟩ ∈ wa_ALL := wa_in 41 (by decide +kernel) rfl
theorem qw_863 : Cond.code ⟨"ImageBakerModel", "running", "(I)I"⟩ prog_7_method_26_code 4 (Option.some FieldType.int) ∈ wa_ALL := wa_in 863 (by decide +kernel) rfl
theorem qw_860 : Cond.methodLink "ImageBakerModel" 150 ⟨"ImageBakerModel", "running", "(I)I"⟩ ∈ wa_ALL := wa_in 860 (by decide +kernel) rfl
theorem qw_886 : Cond.instanceMethod ⟨"ImageBakerModel", "isTooOld", "(I)Z"⟩ ∈ wa_ALL := wa_in 886 (by decide +kernel) rfl
theorem qw_42 : Cond.selects "ImageBakerModel" ⟨"ImageBakerModel", "isTooOld", "(I)Z"⟩ ⟨"ImageBakerModel", "isTooOld", "(I)Z"⟩ ∈ wa_ALL := wa_in 42 (by decide +kernel) rfl
theorem qw_887 : Cond.code ⟨"ImageBakerModel", "isTooOld", "(I)Z"⟩ prog_7_method_27_code 2 (Option.some FieldType.boolean) ∈ wa_ALL := wa_in 887 (by decide +kernel) rfl
theorem qw_884 : Cond.methodLink "ImageBakerModel" 153 ⟨"ImageBakerModel", "isTooOld", "(I)Z"⟩ ∈ wa_ALL := wa_in 884 (by decide +kernel) rfl
theorem qw_894 : Cond.instanceMethod ⟨"ImageBakerModel", "bakeFor", "(III)I"⟩ ∈ wa_ALL := wa_in 894 (by decide +kernel) rfl
theorem qw_43 : Cond.selects "ImageBakerModel" ⟨"ImageBakerModel", "bakeFor", "(III)I"⟩ ⟨"ImageBakerModel", "bakeFor", "(III)I"⟩ ∈ wa_ALL := wa_in 43 (by decide +kernel) rfl
theorem qw_895 : Cond.code ⟨"ImageBakerModel", "bakeFor", "(III)I"⟩ prog_7_method_35_code 8 (Option.some FieldType.int) ∈ wa_ALL := wa_in 895 (by decide +kernel) rfl
theorem qw_892 : Cond.methodLink "ImageBakerModel" 156 ⟨"ImageBakerModel", "bakeFor", "(III)I"⟩ ∈ wa_ALL := wa_in 892 (by decide +kernel) rfl
theorem qw_902 : Cond.instanceMethod ⟨"ImageBakerModel", "isRunning", "(I)Z"⟩ ∈ wa_ALL := wa_in 902 (by decide +kernel) rfl
theorem qw_44 : Cond.selects "ImageBakerModel" ⟨"ImageBakerModel", "isRunning", "(I)Z"⟩ ⟨"ImageBakerModel", "isRunning", "(I)Z"⟩ ∈ wa_ALL := wa_in 44 (by decide +kernel) rfl
theorem qw_903 : Cond.code ⟨"ImageBakerModel", "isRunning", "(I)Z"⟩ prog_7_method_37_code 2 (Option.some FieldType.boolean) ∈ wa_ALL := wa_in 903 (by decide +kernel) rfl
theorem qw_900 : Cond.methodLink "ImageBakerModel" 159 ⟨"ImageBakerModel", "isRunning", "(I)Z"⟩ ∈ wa_ALL := wa_in 900 (by decide +kernel) rfl
theorem qw_906 : Cond.instanceMethod ⟨"ImageBakerModel", "next", "(I)I"⟩ ∈ wa_ALL := wa_in 906 (by decide +kernel) rfl
theorem qw_45 : Cond.selects "ImageBakerModel" ⟨"ImageBakerModel", "next", "(I)I"⟩ ⟨"ImageBakerModel", "next", "(I)I"⟩ ∈ wa_ALL := wa_in 45 (by decide +kernel) rfl
theorem qw_907 : Cond.code ⟨"ImageBakerModel", "next", "(I)I"⟩ prog_7_method_38_code 2 (Option.some FieldType.int) ∈ wa_ALL := wa_in 907 (by decide +kernel) rfl
theorem qw_904 : Cond.methodLink "ImageBakerModel" 162 ⟨"ImageBakerModel", "next", "(I)I"⟩ ∈ wa_ALL := wa_in 904 (by decide +kernel) rfl
theorem qw_922 : Cond.instanceMethod ⟨"ImageBakerModel", "isOld", "(I)Z"⟩ ∈ wa_ALL := wa_in 922 (by decide +kernel) rfl
theorem qw_46 : Cond.selects "ImageBakerModel" ⟨"ImageBakerModel", "isOld", "(I)Z"⟩ ⟨"ImageBakerModel", "isOld", "(I)Z"⟩ ∈ wa_ALL := wa_in 46 (by decide +kernel) rfl
theorem qw_923 : Cond.code ⟨"ImageBakerModel", "isOld", "(I)Z"⟩ prog_7_method_42_code 2 (Option.some FieldType.boolean) ∈ wa_ALL := wa_in 923 (by decide +kernel) rfl
theorem qw_920 : Cond.methodLink "ImageBakerModel" 165 ⟨"ImageBakerModel", "isOld", "(I)Z"⟩ ∈ wa_ALL := wa_in 920 (by decide +kernel) rfl
theorem qw_930 : Cond.instanceMethod ⟨"ImageBakerModel", "isAhead", "(II)Z"⟩ ∈ wa_ALL := wa_in 930 (by decide +kernel) rfl
theorem qw_47 : Cond.selects "ImageBakerModel" ⟨"ImageBakerModel", "isAhead", "(II)Z"⟩ ⟨"ImageBakerModel", "isAhead", "(II)Z"⟩ ∈ wa_ALL := wa_in 47 (by decide +kernel) rfl
theorem qw_931 : Cond.code ⟨"ImageBakerModel", "isAhead", "(II)Z"⟩ prog_7_method_44_code 5 (Option.some FieldType.boolean) ∈ wa_ALL := wa_in 931 (by decide +kernel) rfl
theorem qw_928 : Cond.methodLink "ImageBakerModel" 168 ⟨"ImageBakerModel", "isAhead", "(II)Z"⟩ ∈ wa_ALL := wa_in 928 (by decide +kernel) rfl
end
section
/-! the rows of each field and each call (laid by program) -/
section WAF
variable {p : Program} {l : Launch} {e : Env} {R : Room} {s : State} {m : MethodId} {args : Array Value} {below : List Frame} {meth : Method} {c : Code} {H : Heap} {locs : List Loc} {cells slots : Nat} {Q : State → Prop}
variable {cc : ByteArray} {pc : Nat} {ls : Array Slot} {rest st0 : List Value} {D : va_G} {A : Nat → Prop} {H0 : Heap} {cy : Nat → ClassId} {ad : Nat → Nat → Nat} {C : wa_C} {nL : Nat} {nm : String} {ret : Option FieldType} {kd i : Nat} {fs : List Value} {v : Value}
theorem gX0_9 (F : wa_fx p s m c meth args cc nL RX0 nm ret D cy) (hw : wa_wd D ad C H) (he : C kd i = some (.inr (0, fs))) (hv : fs[4]? = some v) (hdg : decode cc pc = .ok (.getfield 9, 3)) (kk : W p l e R s m args below meth c H locs cells slots Q (F0 m (pc + 3) ls (v :: rest))) : W p l e R s m args below meth c H locs cells slots Q (F0 m pc ls (.ref (ad kd i) :: rest)) := wa_get F hw he inF0 rfl 4 (by decide) qw_412 rfl hv hdg kk
theorem pX0_9 {x : Option Nat} (F : wa_fx p s m c meth args cc nL RX0 nm ret D cy) (hin2 : nm = "<init>") (hw : wa_wd D ad C H) (hj : wa_wj A ad C) (hS : va_S A H0 H locs) (he : C kd i = some (.inr (0, fs))) (hl : 4 < fs.length) (hdg : decode cc pc = .ok (.putfield 9, 3)) (kk : ∀ (H1 : Heap) (locs1 : List Loc), wa_wd D ad (wa_up C kd i (.inr (0, fs.set 4 (va_rf x)))) H1 → va_S A H0 H1 locs1 → W p l e R s m args below meth c H1 locs1 cells slots Q (F0 m (pc + 3) ls (rest))) : W p l e R s m args below meth c H locs cells slots Q (F0 m pc ls (va_rf x :: .ref (ad kd i) :: rest)) := wa_putF F hin2 hw hj hS he inF0 tyX0 tyX0_ok nmX0 rfl 4 (by decide) qw_412 rfl rfl rfl (by cases x <;> rfl) (by cases x <;> rfl) hl hdg kk
theorem pX0_15 {x : Int} (F : wa_fx p s m c meth args cc nL RX0 nm ret D cy) (hin2 : nm = "<init>") (hw : wa_wd D ad C H) (hj : wa_wj A ad C) (hS : va_S A H0 H locs) (he : C kd i = some (.inr (0, fs))) (hl : 0 < fs.length) (hdg : decode cc pc = .ok (.putfield 15, 3)) (kk : ∀ (H1 : Heap) (locs1 : List Loc), wa_wd D ad (wa_up C kd i (.inr (0, fs.set 0 (.int (iI x))))) H1 → va_S A H0 H1 locs1 → W p l e R s m args below meth c H1 locs1 cells slots Q (F0 m (pc + 3) ls (rest))) : W p l e R s m args below meth c H locs cells slots Q (F0 m pc ls (.int (iI x) :: .ref (ad kd i) :: rest)) := wa_putF F hin2 hw hj hS he inF0 tyX0 tyX0_ok nmX0 rfl 0 (by decide) qw_404 rfl rfl rfl rfl rfl hl hdg kk
theorem pX0_19 {x : Option Nat} (F : wa_fx p s m c meth args cc nL RX0 nm ret D cy) (hin2 : nm = "<init>") (hw : wa_wd D ad C H) (hj : wa_wj A ad C) (hS : va_S A H0 H locs) (he : C kd i = some (.inr (0, fs))) (hl : 1 < fs.length) (hdg : decode cc pc = .ok (.putfield 19, 3)) (kk : ∀ (H1 : Heap) (locs1 : List Loc), wa_wd D ad (wa_up C kd i (.inr (0, fs.set 1 (va_rf x)))) H1 → va_S A H0 H1 locs1 → W p l e R s m args below meth c H1 locs1 cells slots Q (F0 m (pc + 3) ls (rest))) : W p l e R s m args below meth c H locs cells slots Q (F0 m pc ls (va_rf x :: .ref (ad kd i) :: rest)) := wa_putF F hin2 hw hj hS he inF0 tyX0 tyX0_ok nmX0 rfl 1 (by decide) qw_406 rfl rfl rfl (by cases x <;> rfl) (by cases x <;> rfl) hl hdg kk
theorem pX0_23 {x : Int} (F : wa_fx p s m c meth args cc nL RX0 nm ret D cy) (hin2 : nm = "<init>") (hw : wa_wd D ad C H) (hj : wa_wj A ad C) (hS : va_S A H0 H locs) (he : C kd i = some (.inr (0, fs))) (hl : 2 < fs.length) (hdg : decode cc pc = .ok (.putfield 23, 3)) (kk : ∀ (H1 : Heap) (locs1 : List Loc), wa_wd D ad (wa_up C kd i (.inr (0, fs.set 2 (.int (iI x))))) H1 → va_S A H0 H1 locs1 → W p l e R s m args below meth c H1 locs1 cells slots Q (F0 m (pc + 3) ls (rest))) : W p l e R s m args below meth c H locs cells slots Q (F0 m pc ls (.int (iI x) :: .ref (ad kd i) :: rest)) := wa_putF F hin2 hw hj hS he inF0 tyX0 tyX0_ok nmX0 rfl 2 (by decide) qw_408 rfl rfl rfl rfl rfl hl hdg kk
theorem pX0_26 {x : Int} (F : wa_fx p s m c meth args cc nL RX0 nm ret D cy) (hin2 : nm = "<init>") (hw : wa_wd D ad C H) (hj : wa_wj A ad C) (hS : va_S A H0 H locs) (he : C kd i = some (.inr (0, fs))) (hl : 3 < fs.length) (hdg : decode cc pc = .ok (.putfield 26, 3)) (kk : ∀ (H1 : Heap) (locs1 : List Loc), wa_wd D ad (wa_up C kd i (.inr (0, fs.set 3 (.int (iI x))))) H1 → va_S A H0 H1 locs1 → W p l e R s m args below meth c H1 locs1 cells slots Q (F0 m (pc + 3) ls (rest))) : W p l e R s m args below meth c H locs cells slots Q (F0 m pc ls (.int (iI x) :: .ref (ad kd i) :: rest)) := wa_putF F hin2 hw hj hS he inF0 tyX0 tyX0_ok nmX0 rfl 3 (by decide) qw_410 rfl rfl rfl rfl rfl hl hdg kk
theorem gX1_9 (F : wa_fx p s m c meth args cc nL RX1 nm ret D cy) (hw : wa_wd D ad C H) (he : C kd i = some (.inr (1, fs))) (hv : fs[2]? = some v) (hdg : decode cc pc = .ok (.getfield 9, 3)) (kk : W p l e R s m args below meth c H locs cells slots Q (F0 m (pc + 3) ls (v :: rest))) : W p l e R s m args below meth c H locs cells slots Q (F0 m pc ls (.ref (ad kd i) :: rest)) := wa_get F hw he inF1 rfl 2 (by decide) qw_301 rfl hv hdg kk
theorem pX1_9 {x : Option Nat} (F : wa_fx p s m c meth args cc nL RX1 nm ret D cy) (hin2 : nm = "<init>") (hw : wa_wd D ad C H) (hj : wa_wj A ad C) (hS : va_S A H0 H locs) (he : C kd i = some (.inr (1, fs))) (hl : 2 < fs.length) (hdg : decode cc pc = .ok (.putfield 9, 3)) (kk : ∀ (H1 : Heap) (locs1 : List Loc), wa_wd D ad (wa_up C kd i (.inr (1, fs.set 2 (va_rf x)))) H1 → va_S A H0 H1 locs1 → W p l e R s m args below meth c H1 locs1 cells slots Q (F0 m (pc + 3) ls (rest))) : W p l e R s m args below meth c H locs cells slots Q (F0 m pc ls (va_rf x :: .ref (ad kd i) :: rest)) := wa_putF F hin2 hw hj hS he inF1 tyX1 tyX1_ok nmX1 rfl 2 (by decide) qw_301 rfl rfl rfl (by cases x <;> rfl) (by cases x <;> rfl) hl hdg kk
theorem pX1_15 {x : Int} (F : wa_fx p s m c meth args cc nL RX1 nm ret D cy) (hin2 : nm = "<init>") (hw : wa_wd D ad C H) (hj : wa_wj A ad C) (hS : va_S A H0 H locs) (he : C kd i = some (.inr (1, fs))) (hl : 0 < fs.length) (hdg : decode cc pc = .ok (.putfield 15, 3)) (kk : ∀ (H1 : Heap) (locs1 : List Loc), wa_wd D ad (wa_up C kd i (.inr (1, fs.set 0 (.int (iI x))))) H1 → va_S A H0 H1 locs1 → W p l e R s m args below meth c H1 locs1 cells slots Q (F0 m (pc + 3) ls (rest))) : W p l e R s m args below meth c H locs cells slots Q (F0 m pc ls (.int (iI x) :: .ref (ad kd i) :: rest)) := wa_putF F hin2 hw hj hS he inF1 tyX1 tyX1_ok nmX1 rfl 0 (by decide) qw_297 rfl rfl rfl rfl rfl hl hdg kk
theorem pX1_19 {x : Option Nat} (F : wa_fx p s m c meth args cc nL RX1 nm ret D cy) (hin2 : nm = "<init>") (hw : wa_wd D ad C H) (hj : wa_wj A ad C) (hS : va_S A H0 H locs) (he : C kd i = some (.inr (1, fs))) (hl : 1 < fs.length) (hdg : decode cc pc = .ok (.putfield 19, 3)) (kk : ∀ (H1 : Heap) (locs1 : List Loc), wa_wd D ad (wa_up C kd i (.inr (1, fs.set 1 (va_rf x)))) H1 → va_S A H0 H1 locs1 → W p l e R s m args below meth c H1 locs1 cells slots Q (F0 m (pc + 3) ls (rest))) : W p l e R s m args below meth c H locs cells slots Q (F0 m pc ls (va_rf x :: .ref (ad kd i) :: rest)) := wa_putF F hin2 hw hj hS he inF1 tyX1 tyX1_ok nmX1 rfl 1 (by decide) qw_299 rfl rfl rfl (by cases x <;> rfl) (by cases x <;> rfl) hl hdg kk
theorem gX1_23 (F : wa_fx p s m c meth args cc nL RX1 nm ret D cy) (hw : wa_wd D ad C H) (he : C kd i = some (.inr (1, fs))) (hv : fs[3]? = some v) (hdg : decode cc pc = .ok (.getfield 23, 3)) (kk : W p l e R s m args below meth c H locs cells slots Q (F0 m (pc + 3) ls (v :: rest))) : W p l e R s m args below meth c H locs cells slots Q (F0 m pc ls (.ref (ad kd i) :: rest)) := wa_get F hw he inF1 rfl 3 (by decide) qw_303 rfl hv hdg kk
theorem pX1_23 {x : Int} (F : wa_fx p s m c meth args cc nL RX1 nm ret D cy) (hw : wa_wd D ad C H) (hj : wa_wj A ad C) (hS : va_S A H0 H locs) (he : C kd i = some (.inr (1, fs))) (hl : 3 < fs.length) (hdg : decode cc pc = .ok (.putfield 23, 3)) (kk : ∀ (H1 : Heap) (locs1 : List Loc), wa_wd D ad (wa_up C kd i (.inr (1, fs.set 3 (.int (iI x))))) H1 → va_S A H0 H1 locs1 → W p l e R s m args below meth c H1 locs1 cells slots Q (F0 m (pc + 3) ls (rest))) : W p l e R s m args below meth c H locs cells slots Q (F0 m pc ls (.int (iI x) :: .ref (ad kd i) :: rest)) := wa_put F hw hj hS he inF1 tyX1 tyX1_ok nmX1 rfl 3 (by decide) qw_303 rfl rfl rfl rfl hl hdg kk
theorem gX2_9 (F : wa_fx p s m c meth args cc nL RX2 nm ret D cy) (hw : wa_wd D ad C H) (he : C kd i = some (.inr (2, fs))) (hv : fs[0]? = some v) (hdg : decode cc pc = .ok (.getfield 9, 3)) (kk : W p l e R s m args below meth c H locs cells slots Q (F0 m (pc + 3) ls (v :: rest))) : W p l e R s m args below meth c H locs cells slots Q (F0 m pc ls (.ref (ad kd i) :: rest)) := wa_get F hw he inF2 rfl 0 (by decide) qw_75 rfl hv hdg kk
theorem pX2_9 {x : Option Nat} (F : wa_fx p s m c meth args cc nL RX2 nm ret D cy) (hin2 : nm = "<init>") (hw : wa_wd D ad C H) (hj : wa_wj A ad C) (hS : va_S A H0 H locs) (he : C kd i = some (.inr (2, fs))) (hl : 0 < fs.length) (hdg : decode cc pc = .ok (.putfield 9, 3)) (kk : ∀ (H1 : Heap) (locs1 : List Loc), wa_wd D ad (wa_up C kd i (.inr (2, fs.set 0 (va_rf x)))) H1 → va_S A H0 H1 locs1 → W p l e R s m args below meth c H1 locs1 cells slots Q (F0 m (pc + 3) ls (rest))) : W p l e R s m args below meth c H locs cells slots Q (F0 m pc ls (va_rf x :: .ref (ad kd i) :: rest)) := wa_putF F hin2 hw hj hS he inF2 tyX2 tyX2_ok nmX2 rfl 0 (by decide) qw_75 rfl rfl rfl (by cases x <;> rfl) (by cases x <;> rfl) hl hdg kk
theorem gX2_15 (F : wa_fx p s m c meth args cc nL RX2 nm ret D cy) (hw : wa_wd D ad C H) (he : C kd i = some (.inr (2, fs))) (hv : fs[1]? = some v) (hdg : decode cc pc = .ok (.getfield 15, 3)) (kk : W p l e R s m args below meth c H locs cells slots Q (F0 m (pc + 3) ls (v :: rest))) : W p l e R s m args below meth c H locs cells slots Q (F0 m pc ls (.ref (ad kd i) :: rest)) := wa_get F hw he inF2 rfl 1 (by decide) qw_76 rfl hv hdg kk
theorem pX2_15 {x : Option Nat} (F : wa_fx p s m c meth args cc nL RX2 nm ret D cy) (hin2 : nm = "<init>") (hw : wa_wd D ad C H) (hj : wa_wj A ad C) (hS : va_S A H0 H locs) (he : C kd i = some (.inr (2, fs))) (hl : 1 < fs.length) (hdg : decode cc pc = .ok (.putfield 15, 3)) (kk : ∀ (H1 : Heap) (locs1 : List Loc), wa_wd D ad (wa_up C kd i (.inr (2, fs.set 1 (va_rf x)))) H1 → va_S A H0 H1 locs1 → W p l e R s m args below meth c H1 locs1 cells slots Q (F0 m (pc + 3) ls (rest))) : W p l e R s m args below meth c H locs cells slots Q (F0 m pc ls (va_rf x :: .ref (ad kd i) :: rest)) := wa_putF F hin2 hw hj hS he inF2 tyX2 tyX2_ok nmX2 rfl 1 (by decide) qw_76 rfl rfl rfl (by cases x <;> rfl) (by cases x <;> rfl) hl hdg kk
theorem gX2_18 (F : wa_fx p s m c meth args cc nL RX2 nm ret D cy) (hw : wa_wd D ad C H) (he : C kd i = some (.inr (2, fs))) (hv : fs[2]? = some v) (hdg : decode cc pc = .ok (.getfield 18, 3)) (kk : W p l e R s m args below meth c H locs cells slots Q (F0 m (pc + 3) ls (v :: rest))) : W p l e R s m args below meth c H locs cells slots Q (F0 m pc ls (.ref (ad kd i) :: rest)) := wa_get F hw he inF2 rfl 2 (by decide) qw_77 rfl hv hdg kk
theorem pX2_18 {x : Option Nat} (F : wa_fx p s m c meth args cc nL RX2 nm ret D cy) (hin2 : nm = "<init>") (hw : wa_wd D ad C H) (hj : wa_wj A ad C) (hS : va_S A H0 H locs) (he : C kd i = some (.inr (2, fs))) (hl : 2 < fs.length) (hdg : decode cc pc = .ok (.putfield 18, 3)) (kk : ∀ (H1 : Heap) (locs1 : List Loc), wa_wd D ad (wa_up C kd i (.inr (2, fs.set 2 (va_rf x)))) H1 → va_S A H0 H1 locs1 → W p l e R s m args below meth c H1 locs1 cells slots Q (F0 m (pc + 3) ls (rest))) : W p l e R s m args below meth c H locs cells slots Q (F0 m pc ls (va_rf x :: .ref (ad kd i) :: rest)) := wa_putF F hin2 hw hj hS he inF2 tyX2 tyX2_ok nmX2 rfl 2 (by decide) qw_77 rfl rfl rfl (by cases x <;> rfl) (by cases x <;> rfl) hl hdg kk
theorem gX2_21 (F : wa_fx p s m c meth args cc nL RX2 nm ret D cy) (hw : wa_wd D ad C H) (he : C kd i = some (.inr (2, fs))) (hv : fs[3]? = some v) (hdg : decode cc pc = .ok (.getfield 21, 3)) (kk : W p l e R s m args below meth c H locs cells slots Q (F0 m (pc + 3) ls (v :: rest))) : W p l e R s m args below meth c H locs cells slots Q (F0 m pc ls (.ref (ad kd i) :: rest)) := wa_get F hw he inF2 rfl 3 (by decide) qw_78 rfl hv hdg kk
theorem pX2_21 {x : Int} (F : wa_fx p s m c meth args cc nL RX2 nm ret D cy) (hw : wa_wd D ad C H) (hj : wa_wj A ad C) (hS : va_S A H0 H locs) (he : C kd i = some (.inr (2, fs))) (hl : 3 < fs.length) (hdg : decode cc pc = .ok (.putfield 21, 3)) (kk : ∀ (H1 : Heap) (locs1 : List Loc), wa_wd D ad (wa_up C kd i (.inr (2, fs.set 3 (.int (iI x))))) H1 → va_S A H0 H1 locs1 → W p l e R s m args below meth c H1 locs1 cells slots Q (F0 m (pc + 3) ls (rest))) : W p l e R s m args below meth c H locs cells slots Q (F0 m pc ls (.int (iI x) :: .ref (ad kd i) :: rest)) := wa_put F hw hj hS he inF2 tyX2 tyX2_ok nmX2 rfl 3 (by decide) qw_78 rfl rfl rfl rfl hl hdg kk
theorem pX3_7 {x : Int} (F : wa_fx p s m c meth args cc nL RX3 nm ret D cy) (hin2 : nm = "<init>") (hw : wa_wd D ad C H) (hj : wa_wj A ad C) (hS : va_S A H0 H locs) (he : C kd i = some (.inr (3, fs))) (hl : 0 < fs.length) (hdg : decode cc pc = .ok (.putfield 7, 3)) (kk : ∀ (H1 : Heap) (locs1 : List Loc), wa_wd D ad (wa_up C kd i (.inr (3, fs.set 0 (.int (iI x))))) H1 → va_S A H0 H1 locs1 → W p l e R s m args below meth c H1 locs1 cells slots Q (F0 m (pc + 3) ls (rest))) : W p l e R s m args below meth c H locs cells slots Q (F0 m pc ls (.int (iI x) :: .ref (ad kd i) :: rest)) := wa_putF F hin2 hw hj hS he inF3 tyX3 tyX3_ok nmX3 rfl 0 (by decide) qw_592 rfl rfl rfl rfl rfl hl hdg kk
theorem pX3_13 {x : Option Nat} (F : wa_fx p s m c meth args cc nL RX3 nm ret D cy) (hin2 : nm = "<init>") (hw : wa_wd D ad C H) (hj : wa_wj A ad C) (hS : va_S A H0 H locs) (he : C kd i = some (.inr (3, fs))) (hl : 1 < fs.length) (hdg : decode cc pc = .ok (.putfield 13, 3)) (kk : ∀ (H1 : Heap) (locs1 : List Loc), wa_wd D ad (wa_up C kd i (.inr (3, fs.set 1 (va_rf x)))) H1 → va_S A H0 H1 locs1 → W p l e R s m args below meth c H1 locs1 cells slots Q (F0 m (pc + 3) ls (rest))) : W p l e R s m args below meth c H locs cells slots Q (F0 m pc ls (va_rf x :: .ref (ad kd i) :: rest)) := wa_putF F hin2 hw hj hS he inF3 tyX3 tyX3_ok nmX3 rfl 1 (by decide) qw_594 rfl rfl rfl (by cases x <;> rfl) (by cases x <;> rfl) hl hdg kk
theorem pX3_17 {x : Int} (F : wa_fx p s m c meth args cc nL RX3 nm ret D cy) (hin2 : nm = "<init>") (hw : wa_wd D ad C H) (hj : wa_wj A ad C) (hS : va_S A H0 H locs) (he : C kd i = some (.inr (3, fs))) (hl : 2 < fs.length) (hdg : decode cc pc = .ok (.putfield 17, 3)) (kk : ∀ (H1 : Heap) (locs1 : List Loc), wa_wd D ad (wa_up C kd i (.inr (3, fs.set 2 (.int (iI x))))) H1 → va_S A H0 H1 locs1 → W p l e R s m args below meth c H1 locs1 cells slots Q (F0 m (pc + 3) ls (rest))) : W p l e R s m args below meth c H locs cells slots Q (F0 m pc ls (.int (iI x) :: .ref (ad kd i) :: rest)) := wa_putF F hin2 hw hj hS he inF3 tyX3 tyX3_ok nmX3 rfl 2 (by decide) qw_596 rfl rfl rfl rfl rfl hl hdg kk
theorem pX3_20 {x : Int} (F : wa_fx p s m c meth args cc nL RX3 nm ret D cy) (hin2 : nm = "<init>") (hw : wa_wd D ad C H) (hj : wa_wj A ad C) (hS : va_S A H0 H locs) (he : C kd i = some (.inr (3, fs))) (hl : 3 < fs.length) (hdg : decode cc pc = .ok (.putfield 20, 3)) (kk : ∀ (H1 : Heap) (locs1 : List Loc), wa_wd D ad (wa_up C kd i (.inr (3, fs.set 3 (.int (iI x))))) H1 → va_S A H0 H1 locs1 → W p l e R s m args below meth c H1 locs1 cells slots Q (F0 m (pc + 3) ls (rest))) : W p l e R s m args below meth c H locs cells slots Q (F0 m pc ls (.int (iI x) :: .ref (ad kd i) :: rest)) := wa_putF F hin2 hw hj hS he inF3 tyX3 tyX3_ok nmX3 rfl 3 (by decide) qw_598 rfl rfl rfl rfl rfl hl hdg kk
theorem pX3_23 {x : Option Nat} (F : wa_fx p s m c meth args cc nL RX3 nm ret D cy) (hw : wa_wd D ad C H) (hj : wa_wj A ad C) (hS : va_S A H0 H locs) (he : C kd i = some (.inr (3, fs))) (hl : 4 < fs.length) (hdg : decode cc pc = .ok (.putfield 23, 3)) (kk : ∀ (H1 : Heap) (locs1 : List Loc), wa_wd D ad (wa_up C kd i (.inr (3, fs.set 4 (va_rf x)))) H1 → va_S A H0 H1 locs1 → W p l e R s m args below meth c H1 locs1 cells slots Q (F0 m (pc + 3) ls (rest))) : W p l e R s m args below meth c H locs cells slots Q (F0 m pc ls (va_rf x :: .ref (ad kd i) :: rest)) := wa_put F hw hj hS he inF3 tyX3 tyX3_ok nmX3 rfl 4 (by decide) qw_600 rfl rfl (by cases x <;> rfl) (by cases x <;> rfl) hl hdg kk
theorem gX4_12 (F : wa_fx p s m c meth args cc nL RX4 nm ret D cy) (hw : wa_wd D ad C H) (he : C kd i = some (.inr (4, fs))) (hv : fs[0]? = some v) (hdg : decode cc pc = .ok (.getfield 12, 3)) (kk : W p l e R s m args below meth c H locs cells slots Q (F0 m (pc + 3) ls (v :: rest))) : W p l e R s m args below meth c H locs cells slots Q (F0 m pc ls (.ref (ad kd i) :: rest)) := wa_get F hw he inF4 rfl 0 (by decide) qw_96 rfl hv hdg kk
theorem pX4_12 {x : Option Nat} (F : wa_fx p s m c meth args cc nL RX4 nm ret D cy) (hin2 : nm = "<init>") (hw : wa_wd D ad C H) (hj : wa_wj A ad C) (hS : va_S A H0 H locs) (he : C kd i = some (.inr (4, fs))) (hl : 0 < fs.length) (hdg : decode cc pc = .ok (.putfield 12, 3)) (kk : ∀ (H1 : Heap) (locs1 : List Loc), wa_wd D ad (wa_up C kd i (.inr (4, fs.set 0 (va_rf x)))) H1 → va_S A H0 H1 locs1 → W p l e R s m args below meth c H1 locs1 cells slots Q (F0 m (pc + 3) ls (rest))) : W p l e R s m args below meth c H locs cells slots Q (F0 m pc ls (va_rf x :: .ref (ad kd i) :: rest)) := wa_putF F hin2 hw hj hS he inF4 tyX4 tyX4_ok nmX4 rfl 0 (by decide) qw_96 rfl rfl rfl (by cases x <;> rfl) (by cases x <;> rfl) hl hdg kk
theorem gX4_16 (F : wa_fx p s m c meth args cc nL RX4 nm ret D cy) (hw : wa_wd D ad C H) (he : C kd i = some (.inr (4, fs))) (hv : fs[1]? = some v) (hdg : decode cc pc = .ok (.getfield 16, 3)) (kk : W p l e R s m args below meth c H locs cells slots Q (F0 m (pc + 3) ls (v :: rest))) : W p l e R s m args below meth c H locs cells slots Q (F0 m pc ls (.ref (ad kd i) :: rest)) := wa_get F hw he inF4 rfl 1 (by decide) qw_97 rfl hv hdg kk
theorem pX4_16 {x : Option Nat} (F : wa_fx p s m c meth args cc nL RX4 nm ret D cy) (hin2 : nm = "<init>") (hw : wa_wd D ad C H) (hj : wa_wj A ad C) (hS : va_S A H0 H locs) (he : C kd i = some (.inr (4, fs))) (hl : 1 < fs.length) (hdg : decode cc pc = .ok (.putfield 16, 3)) (kk : ∀ (H1 : Heap) (locs1 : List Loc), wa_wd D ad (wa_up C kd i (.inr (4, fs.set 1 (va_rf x)))) H1 → va_S A H0 H1 locs1 → W p l e R s m args below meth c H1 locs1 cells slots Q (F0 m (pc + 3) ls (rest))) : W p l e R s m args below meth c H locs cells slots Q (F0 m pc ls (va_rf x :: .ref (ad kd i) :: rest)) := wa_putF F hin2 hw hj hS he inF4 tyX4 tyX4_ok nmX4 rfl 1 (by decide) qw_97 rfl rfl rfl (by cases x <;> rfl) (by cases x <;> rfl) hl hdg kk
theorem gX4_20 (F : wa_fx p s m c meth args cc nL RX4 nm ret D cy) (hw : wa_wd D ad C H) (he : C kd i = some (.inr (4, fs))) (hv : fs[2]? = some v) (hdg : decode cc pc = .ok (.getfield 20, 3)) (kk : W p l e R s m args below meth c H locs cells slots Q (F0 m (pc + 3) ls (v :: rest))) : W p l e R s m args below meth c H locs cells slots Q (F0 m pc ls (.ref (ad kd i) :: rest)) := wa_get F hw he inF4 rfl 2 (by decide) qw_98 rfl hv hdg kk
theorem pX4_20 {x : Option Nat} (F : wa_fx p s m c meth args cc nL RX4 nm ret D cy) (hin2 : nm = "<init>") (hw : wa_wd D ad C H) (hj : wa_wj A ad C) (hS : va_S A H0 H locs) (he : C kd i = some (.inr (4, fs))) (hl : 2 < fs.length) (hdg : decode cc pc = .ok (.putfield 20, 3)) (kk : ∀ (H1 : Heap) (locs1 : List Loc), wa_wd D ad (wa_up C kd i (.inr (4, fs.set 2 (va_rf x)))) H1 → va_S A H0 H1 locs1 → W p l e R s m args below meth c H1 locs1 cells slots Q (F0 m (pc + 3) ls (rest))) : W p l e R s m args below meth c H locs cells slots Q (F0 m pc ls (va_rf x :: .ref (ad kd i) :: rest)) := wa_putF F hin2 hw hj hS he inF4 tyX4 tyX4_ok nmX4 rfl 2 (by decide) qw_98 rfl rfl rfl (by cases x <;> rfl) (by cases x <;> rfl) hl hdg kk
theorem gX4_25 (F : wa_fx p s m c meth args cc nL RX4 nm ret D cy) (hw : wa_wd D ad C H) (he : C kd i = some (.inr (4, fs))) (hv : fs[3]? = some v) (hdg : decode cc pc = .ok (.getfield 25, 3)) (kk : W p l e R s m args below meth c H locs cells slots Q (F0 m (pc + 3) ls (v :: rest))) : W p l e R s m args below meth c H locs cells slots Q (F0 m pc ls (.ref (ad kd i) :: rest)) := wa_get F hw he inF4 rfl 3 (by decide) qw_99 rfl hv hdg kk
theorem pX4_25 {x : Option Nat} (F : wa_fx p s m c meth args cc nL RX4 nm ret D cy) (hin2 : nm = "<init>") (hw : wa_wd D ad C H) (hj : wa_wj A ad C) (hS : va_S A H0 H locs) (he : C kd i = some (.inr (4, fs))) (hl : 3 < fs.length) (hdg : decode cc pc = .ok (.putfield 25, 3)) (kk : ∀ (H1 : Heap) (locs1 : List Loc), wa_wd D ad (wa_up C kd i (.inr (4, fs.set 3 (va_rf x)))) H1 → va_S A H0 H1 locs1 → W p l e R s m args below meth c H1 locs1 cells slots Q (F0 m (pc + 3) ls (rest))) : W p l e R s m args below meth c H locs cells slots Q (F0 m pc ls (va_rf x :: .ref (ad kd i) :: rest)) := wa_putF F hin2 hw hj hS he inF4 tyX4 tyX4_ok nmX4 rfl 3 (by decide) qw_99 rfl rfl rfl (by cases x <;> rfl) (by cases x <;> rfl) hl hdg kk
theorem gX4_31 (F : wa_fx p s m c meth args cc nL RX4 nm ret D cy) (hw : wa_wd D ad C H) (he : C kd i = some (.inr (4, fs))) (hv : fs[5]? = some v) (hdg : decode cc pc = .ok (.getfield 31, 3)) (kk : W p l e R s m args below meth c H locs cells slots Q (F0 m (pc + 3) ls (v :: rest))) : W p l e R s m args below meth c H locs cells slots Q (F0 m pc ls (.ref (ad kd i) :: rest)) := wa_get F hw he inF4 rfl 5 (by decide) qw_101 rfl hv hdg kk
theorem pX4_31 {x : Option Nat} (F : wa_fx p s m c meth args cc nL RX4 nm ret D cy) (hin2 : nm = "<init>") (hw : wa_wd D ad C H) (hj : wa_wj A ad C) (hS : va_S A H0 H locs) (he : C kd i = some (.inr (4, fs))) (hl : 5 < fs.length) (hdg : decode cc pc = .ok (.putfield 31, 3)) (kk : ∀ (H1 : Heap) (locs1 : List Loc), wa_wd D ad (wa_up C kd i (.inr (4, fs.set 5 (va_rf x)))) H1 → va_S A H0 H1 locs1 → W p l e R s m args below meth c H1 locs1 cells slots Q (F0 m (pc + 3) ls (rest))) : W p l e R s m args below meth c H locs cells slots Q (F0 m pc ls (va_rf x :: .ref (ad kd i) :: rest)) := wa_putF F hin2 hw hj hS he inF4 tyX4 tyX4_ok nmX4 rfl 5 (by decide) qw_101 rfl rfl rfl (by cases x <;> rfl) (by cases x <;> rfl) hl hdg kk
theorem gX4_37 (F : wa_fx p s m c meth args cc nL RX4 nm ret D cy) (hw : wa_wd D ad C H) (he : C kd i = some (.inr (4, fs))) (hv : fs[7]? = some v) (hdg : decode cc pc = .ok (.getfield 37, 3)) (kk : W p l e R s m args below meth c H locs cells slots Q (F0 m (pc + 3) ls (v :: rest))) : W p l e R s m args below meth c H locs cells slots Q (F0 m pc ls (.ref (ad kd i) :: rest)) := wa_get F hw he inF4 rfl 7 (by decide) qw_103 rfl hv hdg kk
theorem pX4_37 {x : Option Nat} (F : wa_fx p s m c meth args cc nL RX4 nm ret D cy) (hin2 : nm = "<init>") (hw : wa_wd D ad C H) (hj : wa_wj A ad C) (hS : va_S A H0 H locs) (he : C kd i = some (.inr (4, fs))) (hl : 7 < fs.length) (hdg : decode cc pc = .ok (.putfield 37, 3)) (kk : ∀ (H1 : Heap) (locs1 : List Loc), wa_wd D ad (wa_up C kd i (.inr (4, fs.set 7 (va_rf x)))) H1 → va_S A H0 H1 locs1 → W p l e R s m args below meth c H1 locs1 cells slots Q (F0 m (pc + 3) ls (rest))) : W p l e R s m args below meth c H locs cells slots Q (F0 m pc ls (va_rf x :: .ref (ad kd i) :: rest)) := wa_putF F hin2 hw hj hS he inF4 tyX4 tyX4_ok nmX4 rfl 7 (by decide) qw_103 rfl rfl rfl (by cases x <;> rfl) (by cases x <;> rfl) hl hdg kk
theorem gX4_41 (F : wa_fx p s m c meth args cc nL RX4 nm ret D cy) (hw : wa_wd D ad C H) (he : C kd i = some (.inr (4, fs))) (hv : fs[10]? = some v) (hdg : decode cc pc = .ok (.getfield 41, 3)) (kk : W p l e R s m args below meth c H locs cells slots Q (F0 m (pc + 3) ls (v :: rest))) : W p l e R s m args below meth c H locs cells slots Q (F0 m pc ls (.ref (ad kd i) :: rest)) := wa_get F hw he inF4 rfl 10 (by decide) qw_106 rfl hv hdg kk
theorem pX4_41 {x : Option Nat} (F : wa_fx p s m c meth args cc nL RX4 nm ret D cy) (hin2 : nm = "<init>") (hw : wa_wd D ad C H) (hj : wa_wj A ad C) (hS : va_S A H0 H locs) (he : C kd i = some (.inr (4, fs))) (hl : 10 < fs.length) (hdg : decode cc pc = .ok (.putfield 41, 3)) (kk : ∀ (H1 : Heap) (locs1 : List Loc), wa_wd D ad (wa_up C kd i (.inr (4, fs.set 10 (va_rf x)))) H1 → va_S A H0 H1 locs1 → W p l e R s m args below meth c H1 locs1 cells slots Q (F0 m (pc + 3) ls (rest))) : W p l e R s m args below meth c H locs cells slots Q (F0 m pc ls (va_rf x :: .ref (ad kd i) :: rest)) := wa_putF F hin2 hw hj hS he inF4 tyX4 tyX4_ok nmX4 rfl 10 (by decide) qw_106 rfl rfl rfl (by cases x <;> rfl) (by cases x <;> rfl) hl hdg kk
theorem gX4_44 (F : wa_fx p s m c meth args cc nL RX4 nm ret D cy) (hw : wa_wd D ad C H) (he : C kd i = some (.inr (4, fs))) (hv : fs[13]? = some v) (hdg : decode cc pc = .ok (.getfield 44, 3)) (kk : W p l e R s m args below meth c H locs cells slots Q (F0 m (pc + 3) ls (v :: rest))) : W p l e R s m args below meth c H locs cells slots Q (F0 m pc ls (.ref (ad kd i) :: rest)) := wa_get F hw he inF4 rfl 13 (by decide) qw_109 rfl hv hdg kk
theorem pX4_44 {x : Option Nat} (F : wa_fx p s m c meth args cc nL RX4 nm ret D cy) (hin2 : nm = "<init>") (hw : wa_wd D ad C H) (hj : wa_wj A ad C) (hS : va_S A H0 H locs) (he : C kd i = some (.inr (4, fs))) (hl : 13 < fs.length) (hdg : decode cc pc = .ok (.putfield 44, 3)) (kk : ∀ (H1 : Heap) (locs1 : List Loc), wa_wd D ad (wa_up C kd i (.inr (4, fs.set 13 (va_rf x)))) H1 → va_S A H0 H1 locs1 → W p l e R s m args below meth c H1 locs1 cells slots Q (F0 m (pc + 3) ls (rest))) : W p l e R s m args below meth c H locs cells slots Q (F0 m pc ls (va_rf x :: .ref (ad kd i) :: rest)) := wa_putF F hin2 hw hj hS he inF4 tyX4 tyX4_ok nmX4 rfl 13 (by decide) qw_109 rfl rfl rfl (by cases x <;> rfl) (by cases x <;> rfl) hl hdg kk
theorem gX4_47 (F : wa_fx p s m c meth args cc nL RX4 nm ret D cy) (hw : wa_wd D ad C H) (he : C kd i = some (.inr (4, fs))) (hv : fs[14]? = some v) (hdg : decode cc pc = .ok (.getfield 47, 3)) (kk : W p l e R s m args below meth c H locs cells slots Q (F0 m (pc + 3) ls (v :: rest))) : W p l e R s m args below meth c H locs cells slots Q (F0 m pc ls (.ref (ad kd i) :: rest)) := wa_get F hw he inF4 rfl 14 (by decide) qw_110 rfl hv hdg kk
theorem pX4_47 {x : Option Nat} (F : wa_fx p s m c meth args cc nL RX4 nm ret D cy) (hin2 : nm = "<init>") (hw : wa_wd D ad C H) (hj : wa_wj A ad C) (hS : va_S A H0 H locs) (he : C kd i = some (.inr (4, fs))) (hl : 14 < fs.length) (hdg : decode cc pc = .ok (.putfield 47, 3)) (kk : ∀ (H1 : Heap) (locs1 : List Loc), wa_wd D ad (wa_up C kd i (.inr (4, fs.set 14 (va_rf x)))) H1 → va_S A H0 H1 locs1 → W p l e R s m args below meth c H1 locs1 cells slots Q (F0 m (pc + 3) ls (rest))) : W p l e R s m args below meth c H locs cells slots Q (F0 m pc ls (va_rf x :: .ref (ad kd i) :: rest)) := wa_putF F hin2 hw hj hS he inF4 tyX4 tyX4_ok nmX4 rfl 14 (by decide) qw_110 rfl rfl rfl (by cases x <;> rfl) (by cases x <;> rfl) hl hdg kk
theorem gX4_50 (F : wa_fx p s m c meth args cc nL RX4 nm ret D cy) (hw : wa_wd D ad C H) (he : C kd i = some (.inr (4, fs))) (hv : fs[15]? = some v) (hdg : decode cc pc = .ok (.getfield 50, 3)) (kk : W p l e R s m args below meth c H locs cells slots Q (F0 m (pc + 3) ls (v :: rest))) : W p l e R s m args below meth c H locs cells slots Q (F0 m pc ls (.ref (ad kd i) :: rest)) := wa_get F hw he inF4 rfl 15 (by decide) qw_111 rfl hv hdg kk
theorem pX4_50 {x : Option Nat} (F : wa_fx p s m c meth args cc nL RX4 nm ret D cy) (hin2 : nm = "<init>") (hw : wa_wd D ad C H) (hj : wa_wj A ad C) (hS : va_S A H0 H locs) (he : C kd i = some (.inr (4, fs))) (hl : 15 < fs.length) (hdg : decode cc pc = .ok (.putfield 50, 3)) (kk : ∀ (H1 : Heap) (locs1 : List Loc), wa_wd D ad (wa_up C kd i (.inr (4, fs.set 15 (va_rf x)))) H1 → va_S A H0 H1 locs1 → W p l e R s m args below meth c H1 locs1 cells slots Q (F0 m (pc + 3) ls (rest))) : W p l e R s m args below meth c H locs cells slots Q (F0 m pc ls (va_rf x :: .ref (ad kd i) :: rest)) := wa_putF F hin2 hw hj hS he inF4 tyX4 tyX4_ok nmX4 rfl 15 (by decide) qw_111 rfl rfl rfl (by cases x <;> rfl) (by cases x <;> rfl) hl hdg kk
theorem gX4_53 (F : wa_fx p s m c meth args cc nL RX4 nm ret D cy) (hw : wa_wd D ad C H) (he : C kd i = some (.inr (4, fs))) (hv : fs[16]? = some v) (hdg : decode cc pc = .ok (.getfield 53, 3)) (kk : W p l e R s m args below meth c H locs cells slots Q (F0 m (pc + 3) ls (v :: rest))) : W p l e R s m args below meth c H locs cells slots Q (F0 m pc ls (.ref (ad kd i) :: rest)) := wa_get F hw he inF4 rfl 16 (by decide) qw_112 rfl hv hdg kk
theorem pX4_53 {x : Option Nat} (F : wa_fx p s m c meth args cc nL RX4 nm ret D cy) (hin2 : nm = "<init>") (hw : wa_wd D ad C H) (hj : wa_wj A ad C) (hS : va_S A H0 H locs) (he : C kd i = some (.inr (4, fs))) (hl : 16 < fs.length) (hdg : decode cc pc = .ok (.putfield 53, 3)) (kk : ∀ (H1 : Heap) (locs1 : List Loc), wa_wd D ad (wa_up C kd i (.inr (4, fs.set 16 (va_rf x)))) H1 → va_S A H0 H1 locs1 → W p l e R s m args below meth c H1 locs1 cells slots Q (F0 m (pc + 3) ls (rest))) : W p l e R s m args below meth c H locs cells slots Q (F0 m pc ls (va_rf x :: .ref (ad kd i) :: rest)) := wa_putF F hin2 hw hj hS he inF4 tyX4 tyX4_ok nmX4 rfl 16 (by decide) qw_112 rfl rfl rfl (by cases x <;> rfl) (by cases x <;> rfl) hl hdg kk
theorem gX4_56 (F : wa_fx p s m c meth args cc nL RX4 nm ret D cy) (hw : wa_wd D ad C H) (he : C kd i = some (.inr (4, fs))) (hv : fs[11]? = some v) (hdg : decode cc pc = .ok (.getfield 56, 3)) (kk : W p l e R s m args below meth c H locs cells slots Q (F0 m (pc + 3) ls (v :: rest))) : W p l e R s m args below meth c H locs cells slots Q (F0 m pc ls (.ref (ad kd i) :: rest)) := wa_get F hw he inF4 rfl 11 (by decide) qw_107 rfl hv hdg kk
theorem pX4_56 {x : Int} (F : wa_fx p s m c meth args cc nL RX4 nm ret D cy) (hw : wa_wd D ad C H) (hj : wa_wj A ad C) (hS : va_S A H0 H locs) (he : C kd i = some (.inr (4, fs))) (hl : 11 < fs.length) (hdg : decode cc pc = .ok (.putfield 56, 3)) (kk : ∀ (H1 : Heap) (locs1 : List Loc), wa_wd D ad (wa_up C kd i (.inr (4, fs.set 11 (.int (iI x))))) H1 → va_S A H0 H1 locs1 → W p l e R s m args below meth c H1 locs1 cells slots Q (F0 m (pc + 3) ls (rest))) : W p l e R s m args below meth c H locs cells slots Q (F0 m pc ls (.int (iI x) :: .ref (ad kd i) :: rest)) := wa_put F hw hj hS he inF4 tyX4 tyX4_ok nmX4 rfl 11 (by decide) qw_107 rfl rfl rfl rfl hl hdg kk
theorem gX4_60 (F : wa_fx p s m c meth args cc nL RX4 nm ret D cy) (hw : wa_wd D ad C H) (he : C kd i = some (.inr (4, fs))) (hv : fs[12]? = some v) (hdg : decode cc pc = .ok (.getfield 60, 3)) (kk : W p l e R s m args below meth c H locs cells slots Q (F0 m (pc + 3) ls (v :: rest))) : W p l e R s m args below meth c H locs cells slots Q (F0 m pc ls (.ref (ad kd i) :: rest)) := wa_get F hw he inF4 rfl 12 (by decide) qw_108 rfl hv hdg kk
theorem pX4_60 {x : Int} (F : wa_fx p s m c meth args cc nL RX4 nm ret D cy) (hw : wa_wd D ad C H) (hj : wa_wj A ad C) (hS : va_S A H0 H locs) (he : C kd i = some (.inr (4, fs))) (hl : 12 < fs.length) (hdg : decode cc pc = .ok (.putfield 60, 3)) (kk : ∀ (H1 : Heap) (locs1 : List Loc), wa_wd D ad (wa_up C kd i (.inr (4, fs.set 12 (.int (iI x))))) H1 → va_S A H0 H1 locs1 → W p l e R s m args below meth c H1 locs1 cells slots Q (F0 m (pc + 3) ls (rest))) : W p l e R s m args below meth c H locs cells slots Q (F0 m pc ls (.int (iI x) :: .ref (ad kd i) :: rest)) := wa_put F hw hj hS he inF4 tyX4 tyX4_ok nmX4 rfl 12 (by decide) qw_108 rfl rfl rfl rfl hl hdg kk
theorem gX4_67 (F : wa_fx p s m c meth args cc nL RX4 nm ret D cy) (hw : wa_wd D ad C H) (he : C kd i = some (.inr (4, fs))) (hv : fs[4]? = some v) (hdg : decode cc pc = .ok (.getfield 67, 3)) (kk : W p l e R s m args below meth c H locs cells slots Q (F0 m (pc + 3) ls (v :: rest))) : W p l e R s m args below meth c H locs cells slots Q (F0 m pc ls (.ref (ad kd i) :: rest)) := wa_get F hw he inF4 rfl 4 (by decide) qw_100 rfl hv hdg kk
theorem pX4_67 {x : Int} (F : wa_fx p s m c meth args cc nL RX4 nm ret D cy) (hw : wa_wd D ad C H) (hj : wa_wj A ad C) (hS : va_S A H0 H locs) (he : C kd i = some (.inr (4, fs))) (hl : 4 < fs.length) (hdg : decode cc pc = .ok (.putfield 67, 3)) (kk : ∀ (H1 : Heap) (locs1 : List Loc), wa_wd D ad (wa_up C kd i (.inr (4, fs.set 4 (.int (iI x))))) H1 → va_S A H0 H1 locs1 → W p l e R s m args below meth c H1 locs1 cells slots Q (F0 m (pc + 3) ls (rest))) : W p l e R s m args below meth c H locs cells slots Q (F0 m pc ls (.int (iI x) :: .ref (ad kd i) :: rest)) := wa_put F hw hj hS he inF4 tyX4 tyX4_ok nmX4 rfl 4 (by decide) qw_100 rfl rfl rfl rfl hl hdg kk
theorem gX4_80 (F : wa_fx p s m c meth args cc nL RX4 nm ret D cy) (hw : wa_wd D ad C H) (he : C kd i = some (.inr (1, fs))) (hv : fs[0]? = some v) (hdg : decode cc pc = .ok (.getfield 80, 3)) (kk : W p l e R s m args below meth c H locs cells slots Q (F0 m (pc + 3) ls (v :: rest))) : W p l e R s m args below meth c H locs cells slots Q (F0 m pc ls (.ref (ad kd i) :: rest)) := wa_getN F hw he inF1 rfl 0 (by decide) qn_250 rfl hv hdg kk
theorem gX4_94 (F : wa_fx p s m c meth args cc nL RX4 nm ret D cy) (hw : wa_wd D ad C H) (he : C kd i = some (.inr (1, fs))) (hv : fs[3]? = some v) (hdg : decode cc pc = .ok (.getfield 94, 3)) (kk : W p l e R s m args below meth c H locs cells slots Q (F0 m (pc + 3) ls (v :: rest))) : W p l e R s m args below meth c H locs cells slots Q (F0 m pc ls (.ref (ad kd i) :: rest)) := wa_getN F hw he inF1 rfl 3 (by decide) qn_256 rfl hv hdg kk
theorem gX4_99 (F : wa_fx p s m c meth args cc nL RX4 nm ret D cy) (hw : wa_wd D ad C H) (he : C kd i = some (.inr (1, fs))) (hv : fs[1]? = some v) (hdg : decode cc pc = .ok (.getfield 99, 3)) (kk : W p l e R s m args below meth c H locs cells slots Q (F0 m (pc + 3) ls (v :: rest))) : W p l e R s m args below meth c H locs cells slots Q (F0 m pc ls (.ref (ad kd i) :: rest)) := wa_getN F hw he inF1 rfl 1 (by decide) qn_252 rfl hv hdg kk
theorem gX4_103 (F : wa_fx p s m c meth args cc nL RX4 nm ret D cy) (hw : wa_wd D ad C H) (he : C kd i = some (.inr (1, fs))) (hv : fs[4]? = some v) (hdg : decode cc pc = .ok (.getfield 103, 3)) (kk : W p l e R s m args below meth c H locs cells slots Q (F0 m (pc + 3) ls (v :: rest))) : W p l e R s m args below meth c H locs cells slots Q (F0 m pc ls (.ref (ad kd i) :: rest)) := wa_getN F hw he inF1 rfl 4 (by decide) qn_257 rfl hv hdg kk
theorem pX4_103 {x : Option Nat} (F : wa_fx p s m c meth args cc nL RX4 nm ret D cy) (hw : wa_wd D ad C H) (hj : wa_wj A ad C) (hS : va_S A H0 H locs) (he : C kd i = some (.inr (1, fs))) (hl : 4 < fs.length) (hdg : decode cc pc = .ok (.putfield 103, 3)) (kk : ∀ (H1 : Heap) (locs1 : List Loc), wa_wd D ad (wa_up C kd i (.inr (1, fs.set 4 (va_rf x)))) H1 → va_S A H0 H1 locs1 → W p l e R s m args below meth c H1 locs1 cells slots Q (F0 m (pc + 3) ls (rest))) : W p l e R s m args below meth c H locs cells slots Q (F0 m pc ls (va_rf x :: .ref (ad kd i) :: rest)) := wa_putN F hw hj hS he inF1 tyX1 tyX1_ok nmX1 rfl 4 (by decide) qn_257 rfl rfl (by cases x <;> rfl) (by cases x <;> rfl) hl hdg kk
theorem gX4_113 (F : wa_fx p s m c meth args cc nL RX4 nm ret D cy) (hw : wa_wd D ad C H) (he : C kd i = some (.inr (4, fs))) (hv : fs[6]? = some v) (hdg : decode cc pc = .ok (.getfield 113, 3)) (kk : W p l e R s m args below meth c H locs cells slots Q (F0 m (pc + 3) ls (v :: rest))) : W p l e R s m args below meth c H locs cells slots Q (F0 m pc ls (.ref (ad kd i) :: rest)) := wa_get F hw he inF4 rfl 6 (by decide) qw_102 rfl hv hdg kk
theorem pX4_113 {x : Int} (F : wa_fx p s m c meth args cc nL RX4 nm ret D cy) (hw : wa_wd D ad C H) (hj : wa_wj A ad C) (hS : va_S A H0 H locs) (he : C kd i = some (.inr (4, fs))) (hl : 6 < fs.length) (hdg : decode cc pc = .ok (.putfield 113, 3)) (kk : ∀ (H1 : Heap) (locs1 : List Loc), wa_wd D ad (wa_up C kd i (.inr (4, fs.set 6 (.int (iI x))))) H1 → va_S A H0 H1 locs1 → W p l e R s m args below meth c H1 locs1 cells slots Q (F0 m (pc + 3) ls (rest))) : W p l e R s m args below meth c H locs cells slots Q (F0 m pc ls (.int (iI x) :: .ref (ad kd i) :: rest)) := wa_put F hw hj hS he inF4 tyX4 tyX4_ok nmX4 rfl 6 (by decide) qw_102 rfl rfl rfl rfl hl hdg kk
theorem gX4_138 (F : wa_fx p s m c meth args cc nL RX4 nm ret D cy) (hw : wa_wd D ad C H) (he : C kd i = some (.inr (2, fs))) (hv : fs[3]? = some v) (hdg : decode cc pc = .ok (.getfield 138, 3)) (kk : W p l e R s m args below meth c H locs cells slots Q (F0 m (pc + 3) ls (v :: rest))) : W p l e R s m args below meth c H locs cells slots Q (F0 m pc ls (.ref (ad kd i) :: rest)) := wa_getN F hw he inF2 rfl 3 (by decide) qn_31 rfl hv hdg kk
theorem gX4_145 (F : wa_fx p s m c meth args cc nL RX4 nm ret D cy) (hw : wa_wd D ad C H) (he : C kd i = some (.inr (0, fs))) (hv : fs[2]? = some v) (hdg : decode cc pc = .ok (.getfield 145, 3)) (kk : W p l e R s m args below meth c H locs cells slots Q (F0 m (pc + 3) ls (v :: rest))) : W p l e R s m args below meth c H locs cells slots Q (F0 m pc ls (.ref (ad kd i) :: rest)) := wa_getN F hw he inF0 rfl 2 (by decide) qn_361 rfl hv hdg kk
theorem gX4_148 (F : wa_fx p s m c meth args cc nL RX4 nm ret D cy) (hw : wa_wd D ad C H) (he : C kd i = some (.inr (0, fs))) (hv : fs[8]? = some v) (hdg : decode cc pc = .ok (.getfield 148, 3)) (kk : W p l e R s m args below meth c H locs cells slots Q (F0 m (pc + 3) ls (v :: rest))) : W p l e R s m args below meth c H locs cells slots Q (F0 m pc ls (.ref (ad kd i) :: rest)) := wa_getN F hw he inF0 rfl 8 (by decide) qn_368 rfl hv hdg kk
theorem pX4_148 {x : Int} (F : wa_fx p s m c meth args cc nL RX4 nm ret D cy) (hx : x = 0 ∨ x = 1) (hw : wa_wd D ad C H) (hj : wa_wj A ad C) (hS : va_S A H0 H locs) (he : C kd i = some (.inr (0, fs))) (hl : 8 < fs.length) (hdg : decode cc pc = .ok (.putfield 148, 3)) (kk : ∀ (H1 : Heap) (locs1 : List Loc), wa_wd D ad (wa_up C kd i (.inr (0, fs.set 8 (.int (iI x))))) H1 → va_S A H0 H1 locs1 → W p l e R s m args below meth c H1 locs1 cells slots Q (F0 m (pc + 3) ls (rest))) : W p l e R s m args below meth c H locs cells slots Q (F0 m pc ls (.int (iI x) :: .ref (ad kd i) :: rest)) := wa_putN F hw hj hS he inF0 tyX0 tyX0_ok nmX0 rfl 8 (by decide) qn_368 rfl rfl (by rcases hx with rfl | rfl <;> decide +kernel) (by rcases hx with rfl | rfl <;> decide +kernel) hl hdg kk
theorem gX4_154 (F : wa_fx p s m c meth args cc nL RX4 nm ret D cy) (hw : wa_wd D ad C H) (he : C kd i = some (.inr (0, fs))) (hv : fs[6]? = some v) (hdg : decode cc pc = .ok (.getfield 154, 3)) (kk : W p l e R s m args below meth c H locs cells slots Q (F0 m (pc + 3) ls (v :: rest))) : W p l e R s m args below meth c H locs cells slots Q (F0 m pc ls (.ref (ad kd i) :: rest)) := wa_getN F hw he inF0 rfl 6 (by decide) qn_366 rfl hv hdg kk
theorem pX4_154 {x : Int} (F : wa_fx p s m c meth args cc nL RX4 nm ret D cy) (hx : x = 0 ∨ x = 1) (hw : wa_wd D ad C H) (hj : wa_wj A ad C) (hS : va_S A H0 H locs) (he : C kd i = some (.inr (0, fs))) (hl : 6 < fs.length) (hdg : decode cc pc = .ok (.putfield 154, 3)) (kk : ∀ (H1 : Heap) (locs1 : List Loc), wa_wd D ad (wa_up C kd i (.inr (0, fs.set 6 (.int (iI x))))) H1 → va_S A H0 H1 locs1 → W p l e R s m args below meth c H1 locs1 cells slots Q (F0 m (pc + 3) ls (rest))) : W p l e R s m args below meth c H locs cells slots Q (F0 m pc ls (.int (iI x) :: .ref (ad kd i) :: rest)) := wa_putN F hw hj hS he inF0 tyX0 tyX0_ok nmX0 rfl 6 (by decide) qn_366 rfl rfl (by rcases hx with rfl | rfl <;> decide +kernel) (by rcases hx with rfl | rfl <;> decide +kernel) hl hdg kk
theorem gX4_157 (F : wa_fx p s m c meth args cc nL RX4 nm ret D cy) (hw : wa_wd D ad C H) (he : C kd i = some (.inr (0, fs))) (hv : fs[7]? = some v) (hdg : decode cc pc = .ok (.getfield 157, 3)) (kk : W p l e R s m args below meth c H locs cells slots Q (F0 m (pc + 3) ls (v :: rest))) : W p l e R s m args below meth c H locs cells slots Q (F0 m pc ls (.ref (ad kd i) :: rest)) := wa_getN F hw he inF0 rfl 7 (by decide) qn_367 rfl hv hdg kk
theorem pX4_157 {x : Int} (F : wa_fx p s m c meth args cc nL RX4 nm ret D cy) (hx : x = 0 ∨ x = 1) (hw : wa_wd D ad C H) (hj : wa_wj A ad C) (hS : va_S A H0 H locs) (he : C kd i = some (.inr (0, fs))) (hl : 7 < fs.length) (hdg : decode cc pc = .ok (.putfield 157, 3)) (kk : ∀ (H1 : Heap) (locs1 : List Loc), wa_wd D ad (wa_up C kd i (.inr (0, fs.set 7 (.int (iI x))))) H1 → va_S A H0 H1 locs1 → W p l e R s m args below meth c H1 locs1 cells slots Q (F0 m (pc + 3) ls (rest))) : W p l e R s m args below meth c H locs cells slots Q (F0 m pc ls (.int (iI x) :: .ref (ad kd i) :: rest)) := wa_putN F hw hj hS he inF0 tyX0 tyX0_ok nmX0 rfl 7 (by decide) qn_367 rfl rfl (by rcases hx with rfl | rfl <;> decide +kernel) (by rcases hx with rfl | rfl <;> decide +kernel) hl hdg kk
theorem gX4_165 (F : wa_fx p s m c meth args cc nL RX4 nm ret D cy) (hw : wa_wd D ad C H) (he : C kd i = some (.inr (0, fs))) (hv : fs[5]? = some v) (hdg : decode cc pc = .ok (.getfield 165, 3)) (kk : W p l e R s m args below meth c H locs cells slots Q (F0 m (pc + 3) ls (v :: rest))) : W p l e R s m args below meth c H locs cells slots Q (F0 m pc ls (.ref (ad kd i) :: rest)) := wa_getN F hw he inF0 rfl 5 (by decide) qn_365 rfl hv hdg kk
theorem pX4_165 {x : Int} (F : wa_fx p s m c meth args cc nL RX4 nm ret D cy) (hw : wa_wd D ad C H) (hj : wa_wj A ad C) (hS : va_S A H0 H locs) (he : C kd i = some (.inr (0, fs))) (hl : 5 < fs.length) (hdg : decode cc pc = .ok (.putfield 165, 3)) (kk : ∀ (H1 : Heap) (locs1 : List Loc), wa_wd D ad (wa_up C kd i (.inr (0, fs.set 5 (.int (iI x))))) H1 → va_S A H0 H1 locs1 → W p l e R s m args below meth c H1 locs1 cells slots Q (F0 m (pc + 3) ls (rest))) : W p l e R s m args below meth c H locs cells slots Q (F0 m pc ls (.int (iI x) :: .ref (ad kd i) :: rest)) := wa_putN F hw hj hS he inF0 tyX0 tyX0_ok nmX0 rfl 5 (by decide) qn_365 rfl rfl rfl rfl hl hdg kk
theorem gX4_178 (F : wa_fx p s m c meth args cc nL RX4 nm ret D cy) (hw : wa_wd D ad C H) (he : C kd i = some (.inr (4, fs))) (hv : fs[9]? = some v) (hdg : decode cc pc = .ok (.getfield 178, 3)) (kk : W p l e R s m args below meth c H locs cells slots Q (F0 m (pc + 3) ls (v :: rest))) : W p l e R s m args below meth c H locs cells slots Q (F0 m pc ls (.ref (ad kd i) :: rest)) := wa_get F hw he inF4 rfl 9 (by decide) qw_105 rfl hv hdg kk
theorem pX4_178 {x : Int} (F : wa_fx p s m c meth args cc nL RX4 nm ret D cy) (hw : wa_wd D ad C H) (hj : wa_wj A ad C) (hS : va_S A H0 H locs) (he : C kd i = some (.inr (4, fs))) (hl : 9 < fs.length) (hdg : decode cc pc = .ok (.putfield 178, 3)) (kk : ∀ (H1 : Heap) (locs1 : List Loc), wa_wd D ad (wa_up C kd i (.inr (4, fs.set 9 (.int (iI x))))) H1 → va_S A H0 H1 locs1 → W p l e R s m args below meth c H1 locs1 cells slots Q (F0 m (pc + 3) ls (rest))) : W p l e R s m args below meth c H locs cells slots Q (F0 m pc ls (.int (iI x) :: .ref (ad kd i) :: rest)) := wa_put F hw hj hS he inF4 tyX4 tyX4_ok nmX4 rfl 9 (by decide) qw_105 rfl rfl rfl rfl hl hdg kk
theorem gX4_208 (F : wa_fx p s m c meth args cc nL RX4 nm ret D cy) (hw : wa_wd D ad C H) (he : C kd i = some (.inr (4, fs))) (hv : fs[8]? = some v) (hdg : decode cc pc = .ok (.getfield 208, 3)) (kk : W p l e R s m args below meth c H locs cells slots Q (F0 m (pc + 3) ls (v :: rest))) : W p l e R s m args below meth c H locs cells slots Q (F0 m pc ls (.ref (ad kd i) :: rest)) := wa_get F hw he inF4 rfl 8 (by decide) qw_104 rfl hv hdg kk
theorem pX4_208 {x : Int} (F : wa_fx p s m c meth args cc nL RX4 nm ret D cy) (hw : wa_wd D ad C H) (hj : wa_wj A ad C) (hS : va_S A H0 H locs) (he : C kd i = some (.inr (4, fs))) (hl : 8 < fs.length) (hdg : decode cc pc = .ok (.putfield 208, 3)) (kk : ∀ (H1 : Heap) (locs1 : List Loc), wa_wd D ad (wa_up C kd i (.inr (4, fs.set 8 (.int (iI x))))) H1 → va_S A H0 H1 locs1 → W p l e R s m args below meth c H1 locs1 cells slots Q (F0 m (pc + 3) ls (rest))) : W p l e R s m args below meth c H locs cells slots Q (F0 m pc ls (.int (iI x) :: .ref (ad kd i) :: rest)) := wa_put F hw hj hS he inF4 tyX4 tyX4_ok nmX4 rfl 8 (by decide) qw_104 rfl rfl rfl rfl hl hdg kk
theorem gX4_216 (F : wa_fx p s m c meth args cc nL RX4 nm ret D cy) (hw : wa_wd D ad C H) (he : C kd i = some (.inr (3, fs))) (hv : fs[0]? = some v) (hdg : decode cc pc = .ok (.getfield 216, 3)) (kk : W p l e R s m args below meth c H locs cells slots Q (F0 m (pc + 3) ls (v :: rest))) : W p l e R s m args below meth c H locs cells slots Q (F0 m pc ls (.ref (ad kd i) :: rest)) := wa_getN F hw he inF3 rfl 0 (by decide) qn_545 rfl hv hdg kk
theorem gX4_221 (F : wa_fx p s m c meth args cc nL RX4 nm ret D cy) (hw : wa_wd D ad C H) (he : C kd i = some (.inr (3, fs))) (hv : fs[1]? = some v) (hdg : decode cc pc = .ok (.getfield 221, 3)) (kk : W p l e R s m args below meth c H locs cells slots Q (F0 m (pc + 3) ls (v :: rest))) : W p l e R s m args below meth c H locs cells slots Q (F0 m pc ls (.ref (ad kd i) :: rest)) := wa_getN F hw he inF3 rfl 1 (by decide) qn_547 rfl hv hdg kk
theorem gX4_224 (F : wa_fx p s m c meth args cc nL RX4 nm ret D cy) (hw : wa_wd D ad C H) (he : C kd i = some (.inr (3, fs))) (hv : fs[2]? = some v) (hdg : decode cc pc = .ok (.getfield 224, 3)) (kk : W p l e R s m args below meth c H locs cells slots Q (F0 m (pc + 3) ls (v :: rest))) : W p l e R s m args below meth c H locs cells slots Q (F0 m pc ls (.ref (ad kd i) :: rest)) := wa_getN F hw he inF3 rfl 2 (by decide) qn_549 rfl hv hdg kk
theorem gX4_227 (F : wa_fx p s m c meth args cc nL RX4 nm ret D cy) (hw : wa_wd D ad C H) (he : C kd i = some (.inr (3, fs))) (hv : fs[3]? = some v) (hdg : decode cc pc = .ok (.getfield 227, 3)) (kk : W p l e R s m args below meth c H locs cells slots Q (F0 m (pc + 3) ls (v :: rest))) : W p l e R s m args below meth c H locs cells slots Q (F0 m pc ls (.ref (ad kd i) :: rest)) := wa_getN F hw he inF3 rfl 3 (by decide) qn_551 rfl hv hdg kk
theorem gX4_230 (F : wa_fx p s m c meth args cc nL RX4 nm ret D cy) (hw : wa_wd D ad C H) (he : C kd i = some (.inr (3, fs))) (hv : fs[4]? = some v) (hdg : decode cc pc = .ok (.getfield 230, 3)) (kk : W p l e R s m args below meth c H locs cells slots Q (F0 m (pc + 3) ls (v :: rest))) : W p l e R s m args below meth c H locs cells slots Q (F0 m pc ls (.ref (ad kd i) :: rest)) := wa_getN F hw he inF3 rfl 4 (by decide) qn_553 rfl hv hdg kk
theorem pX4_230 {x : Option Nat} (F : wa_fx p s m c meth args cc nL RX4 nm ret D cy) (hw : wa_wd D ad C H) (hj : wa_wj A ad C) (hS : va_S A H0 H locs) (he : C kd i = some (.inr (3, fs))) (hl : 4 < fs.length) (hdg : decode cc pc = .ok (.putfield 230, 3)) (kk : ∀ (H1 : Heap) (locs1 : List Loc), wa_wd D ad (wa_up C kd i (.inr (3, fs.set 4 (va_rf x)))) H1 → va_S A H0 H1 locs1 → W p l e R s m args below meth c H1 locs1 cells slots Q (F0 m (pc + 3) ls (rest))) : W p l e R s m args below meth c H locs cells slots Q (F0 m pc ls (va_rf x :: .ref (ad kd i) :: rest)) := wa_putN F hw hj hS he inF3 tyX3 tyX3_ok nmX3 rfl 4 (by decide) qn_553 rfl rfl (by cases x <;> rfl) (by cases x <;> rfl) hl hdg kk
theorem gX4_233 (F : wa_fx p s m c meth args cc nL RX4 nm ret D cy) (hw : wa_wd D ad C H) (he : C kd i = some (.inr (0, fs))) (hv : fs[0]? = some v) (hdg : decode cc pc = .ok (.getfield 233, 3)) (kk : W p l e R s m args below meth c H locs cells slots Q (F0 m (pc + 3) ls (v :: rest))) : W p l e R s m args below meth c H locs cells slots Q (F0 m pc ls (.ref (ad kd i) :: rest)) := wa_getN F hw he inF0 rfl 0 (by decide) qn_357 rfl hv hdg kk
theorem gX4_247 (F : wa_fx p s m c meth args cc nL RX4 nm ret D cy) (hw : wa_wd D ad C H) (he : C kd i = some (.inr (1, fs))) (hv : fs[2]? = some v) (hdg : decode cc pc = .ok (.getfield 247, 3)) (kk : W p l e R s m args below meth c H locs cells slots Q (F0 m (pc + 3) ls (v :: rest))) : W p l e R s m args below meth c H locs cells slots Q (F0 m pc ls (.ref (ad kd i) :: rest)) := wa_getN F hw he inF1 rfl 2 (by decide) qn_254 rfl hv hdg kk
theorem gX4_271 (F : wa_fx p s m c meth args cc nL RX4 nm ret D cy) (hw : wa_wd D ad C H) (he : C kd i = some (.inr (1, fs))) (hv : fs[5]? = some v) (hdg : decode cc pc = .ok (.getfield 271, 3)) (kk : W p l e R s m args below meth c H locs cells slots Q (F0 m (pc + 3) ls (v :: rest))) : W p l e R s m args below meth c H locs cells slots Q (F0 m pc ls (.ref (ad kd i) :: rest)) := wa_getN F hw he inF1 rfl 5 (by decide) qn_258 rfl hv hdg kk
theorem pX4_271 {x : Int} (F : wa_fx p s m c meth args cc nL RX4 nm ret D cy) (hw : wa_wd D ad C H) (hj : wa_wj A ad C) (hS : va_S A H0 H locs) (he : C kd i = some (.inr (1, fs))) (hl : 5 < fs.length) (hdg : decode cc pc = .ok (.putfield 271, 3)) (kk : ∀ (H1 : Heap) (locs1 : List Loc), wa_wd D ad (wa_up C kd i (.inr (1, fs.set 5 (.int (iI x))))) H1 → va_S A H0 H1 locs1 → W p l e R s m args below meth c H1 locs1 cells slots Q (F0 m (pc + 3) ls (rest))) : W p l e R s m args below meth c H locs cells slots Q (F0 m pc ls (.int (iI x) :: .ref (ad kd i) :: rest)) := wa_putN F hw hj hS he inF1 tyX1 tyX1_ok nmX1 rfl 5 (by decide) qn_258 rfl rfl rfl rfl hl hdg kk
theorem gX4_295 (F : wa_fx p s m c meth args cc nL RX4 nm ret D cy) (hw : wa_wd D ad C H) (he : C kd i = some (.inr (0, fs))) (hv : fs[3]? = some v) (hdg : decode cc pc = .ok (.getfield 295, 3)) (kk : W p l e R s m args below meth c H locs cells slots Q (F0 m (pc + 3) ls (v :: rest))) : W p l e R s m args below meth c H locs cells slots Q (F0 m pc ls (.ref (ad kd i) :: rest)) := wa_getN F hw he inF0 rfl 3 (by decide) qn_363 rfl hv hdg kk
theorem gX4_302 (F : wa_fx p s m c meth args cc nL RX4 nm ret D cy) (hw : wa_wd D ad C H) (he : C kd i = some (.inr (0, fs))) (hv : fs[1]? = some v) (hdg : decode cc pc = .ok (.getfield 302, 3)) (kk : W p l e R s m args below meth c H locs cells slots Q (F0 m (pc + 3) ls (v :: rest))) : W p l e R s m args below meth c H locs cells slots Q (F0 m pc ls (.ref (ad kd i) :: rest)) := wa_getN F hw he inF0 rfl 1 (by decide) qn_359 rfl hv hdg kk
theorem gX5_7 (F : wa_fx p s m c meth args cc nL RX5 nm ret D cy) (hw : wa_wd D ad C H) (he : C kd i = some (.inr (5, fs))) (hv : fs[2]? = some v) (hdg : decode cc pc = .ok (.getfield 7, 3)) (kk : W p l e R s m args below meth c H locs cells slots Q (F0 m (pc + 3) ls (v :: rest))) : W p l e R s m args below meth c H locs cells slots Q (F0 m pc ls (.ref (ad kd i) :: rest)) := wa_get F hw he inF5 rfl 2 (by decide) qw_661 rfl hv hdg kk
theorem pX5_7 {x : Option Nat} (F : wa_fx p s m c meth args cc nL RX5 nm ret D cy) (hin2 : nm = "<init>") (hw : wa_wd D ad C H) (hj : wa_wj A ad C) (hS : va_S A H0 H locs) (he : C kd i = some (.inr (5, fs))) (hl : 2 < fs.length) (hdg : decode cc pc = .ok (.putfield 7, 3)) (kk : ∀ (H1 : Heap) (locs1 : List Loc), wa_wd D ad (wa_up C kd i (.inr (5, fs.set 2 (va_rf x)))) H1 → va_S A H0 H1 locs1 → W p l e R s m args below meth c H1 locs1 cells slots Q (F0 m (pc + 3) ls (rest))) : W p l e R s m args below meth c H locs cells slots Q (F0 m pc ls (va_rf x :: .ref (ad kd i) :: rest)) := wa_putF F hin2 hw hj hS he inF5 tyX5 tyX5_ok nmX5 rfl 2 (by decide) qw_661 rfl rfl rfl (by cases x <;> rfl) (by cases x <;> rfl) hl hdg kk
theorem gX5_13 (F : wa_fx p s m c meth args cc nL RX5 nm ret D cy) (hw : wa_wd D ad C H) (he : C kd i = some (.inr (5, fs))) (hv : fs[3]? = some v) (hdg : decode cc pc = .ok (.getfield 13, 3)) (kk : W p l e R s m args below meth c H locs cells slots Q (F0 m (pc + 3) ls (v :: rest))) : W p l e R s m args below meth c H locs cells slots Q (F0 m pc ls (.ref (ad kd i) :: rest)) := wa_get F hw he inF5 rfl 3 (by decide) qw_662 rfl hv hdg kk
theorem pX5_13 {x : Option Nat} (F : wa_fx p s m c meth args cc nL RX5 nm ret D cy) (hin2 : nm = "<init>") (hw : wa_wd D ad C H) (hj : wa_wj A ad C) (hS : va_S A H0 H locs) (he : C kd i = some (.inr (5, fs))) (hl : 3 < fs.length) (hdg : decode cc pc = .ok (.putfield 13, 3)) (kk : ∀ (H1 : Heap) (locs1 : List Loc), wa_wd D ad (wa_up C kd i (.inr (5, fs.set 3 (va_rf x)))) H1 → va_S A H0 H1 locs1 → W p l e R s m args below meth c H1 locs1 cells slots Q (F0 m (pc + 3) ls (rest))) : W p l e R s m args below meth c H locs cells slots Q (F0 m pc ls (va_rf x :: .ref (ad kd i) :: rest)) := wa_putF F hin2 hw hj hS he inF5 tyX5 tyX5_ok nmX5 rfl 3 (by decide) qw_662 rfl rfl rfl (by cases x <;> rfl) (by cases x <;> rfl) hl hdg kk
theorem gX5_16 (F : wa_fx p s m c meth args cc nL RX5 nm ret D cy) (hw : wa_wd D ad C H) (he : C kd i = some (.inr (5, fs))) (hv : fs[4]? = some v) (hdg : decode cc pc = .ok (.getfield 16, 3)) (kk : W p l e R s m args below meth c H locs cells slots Q (F0 m (pc + 3) ls (v :: rest))) : W p l e R s m args below meth c H locs cells slots Q (F0 m pc ls (.ref (ad kd i) :: rest)) := wa_get F hw he inF5 rfl 4 (by decide) qw_663 rfl hv hdg kk
theorem pX5_16 {x : Option Nat} (F : wa_fx p s m c meth args cc nL RX5 nm ret D cy) (hin2 : nm = "<init>") (hw : wa_wd D ad C H) (hj : wa_wj A ad C) (hS : va_S A H0 H locs) (he : C kd i = some (.inr (5, fs))) (hl : 4 < fs.length) (hdg : decode cc pc = .ok (.putfield 16, 3)) (kk : ∀ (H1 : Heap) (locs1 : List Loc), wa_wd D ad (wa_up C kd i (.inr (5, fs.set 4 (va_rf x)))) H1 → va_S A H0 H1 locs1 → W p l e R s m args below meth c H1 locs1 cells slots Q (F0 m (pc + 3) ls (rest))) : W p l e R s m args below meth c H locs cells slots Q (F0 m pc ls (va_rf x :: .ref (ad kd i) :: rest)) := wa_putF F hin2 hw hj hS he inF5 tyX5 tyX5_ok nmX5 rfl 4 (by decide) qw_663 rfl rfl rfl (by cases x <;> rfl) (by cases x <;> rfl) hl hdg kk
theorem gX5_19 (F : wa_fx p s m c meth args cc nL RX5 nm ret D cy) (hw : wa_wd D ad C H) (he : C kd i = some (.inr (5, fs))) (hv : fs[5]? = some v) (hdg : decode cc pc = .ok (.getfield 19, 3)) (kk : W p l e R s m args below meth c H locs cells slots Q (F0 m (pc + 3) ls (v :: rest))) : W p l e R s m args below meth c H locs cells slots Q (F0 m pc ls (.ref (ad kd i) :: rest)) := wa_get F hw he inF5 rfl 5 (by decide) qw_664 rfl hv hdg kk
theorem pX5_19 {x : Option Nat} (F : wa_fx p s m c meth args cc nL RX5 nm ret D cy) (hin2 : nm = "<init>") (hw : wa_wd D ad C H) (hj : wa_wj A ad C) (hS : va_S A H0 H locs) (he : C kd i = some (.inr (5, fs))) (hl : 5 < fs.length) (hdg : decode cc pc = .ok (.putfield 19, 3)) (kk : ∀ (H1 : Heap) (locs1 : List Loc), wa_wd D ad (wa_up C kd i (.inr (5, fs.set 5 (va_rf x)))) H1 → va_S A H0 H1 locs1 → W p l e R s m args below meth c H1 locs1 cells slots Q (F0 m (pc + 3) ls (rest))) : W p l e R s m args below meth c H locs cells slots Q (F0 m pc ls (va_rf x :: .ref (ad kd i) :: rest)) := wa_putF F hin2 hw hj hS he inF5 tyX5 tyX5_ok nmX5 rfl 5 (by decide) qw_664 rfl rfl rfl (by cases x <;> rfl) (by cases x <;> rfl) hl hdg kk
theorem gX5_22 (F : wa_fx p s m c meth args cc nL RX5 nm ret D cy) (hw : wa_wd D ad C H) (he : C kd i = some (.inr (5, fs))) (hv : fs[6]? = some v) (hdg : decode cc pc = .ok (.getfield 22, 3)) (kk : W p l e R s m args below meth c H locs cells slots Q (F0 m (pc + 3) ls (v :: rest))) : W p l e R s m args below meth c H locs cells slots Q (F0 m pc ls (.ref (ad kd i) :: rest)) := wa_get F hw he inF5 rfl 6 (by decide) qw_665 rfl hv hdg kk
theorem pX5_22 {x : Option Nat} (F : wa_fx p s m c meth args cc nL RX5 nm ret D cy) (hin2 : nm = "<init>") (hw : wa_wd D ad C H) (hj : wa_wj A ad C) (hS : va_S A H0 H locs) (he : C kd i = some (.inr (5, fs))) (hl : 6 < fs.length) (hdg : decode cc pc = .ok (.putfield 22, 3)) (kk : ∀ (H1 : Heap) (locs1 : List Loc), wa_wd D ad (wa_up C kd i (.inr (5, fs.set 6 (va_rf x)))) H1 → va_S A H0 H1 locs1 → W p l e R s m args below meth c H1 locs1 cells slots Q (F0 m (pc + 3) ls (rest))) : W p l e R s m args below meth c H locs cells slots Q (F0 m pc ls (va_rf x :: .ref (ad kd i) :: rest)) := wa_putF F hin2 hw hj hS he inF5 tyX5 tyX5_ok nmX5 rfl 6 (by decide) qw_665 rfl rfl rfl (by cases x <;> rfl) (by cases x <;> rfl) hl hdg kk
theorem gX5_25 (F : wa_fx p s m c meth args cc nL RX5 nm ret D cy) (hw : wa_wd D ad C H) (he : C kd i = some (.inr (5, fs))) (hv : fs[7]? = some v) (hdg : decode cc pc = .ok (.getfield 25, 3)) (kk : W p l e R s m args below meth c H locs cells slots Q (F0 m (pc + 3) ls (v :: rest))) : W p l e R s m args below meth c H locs cells slots Q (F0 m pc ls (.ref (ad kd i) :: rest)) := wa_get F hw he inF5 rfl 7 (by decide) qw_666 rfl hv hdg kk
theorem pX5_25 {x : Option Nat} (F : wa_fx p s m c meth args cc nL RX5 nm ret D cy) (hin2 : nm = "<init>") (hw : wa_wd D ad C H) (hj : wa_wj A ad C) (hS : va_S A H0 H locs) (he : C kd i = some (.inr (5, fs))) (hl : 7 < fs.length) (hdg : decode cc pc = .ok (.putfield 25, 3)) (kk : ∀ (H1 : Heap) (locs1 : List Loc), wa_wd D ad (wa_up C kd i (.inr (5, fs.set 7 (va_rf x)))) H1 → va_S A H0 H1 locs1 → W p l e R s m args below meth c H1 locs1 cells slots Q (F0 m (pc + 3) ls (rest))) : W p l e R s m args below meth c H locs cells slots Q (F0 m pc ls (va_rf x :: .ref (ad kd i) :: rest)) := wa_putF F hin2 hw hj hS he inF5 tyX5 tyX5_ok nmX5 rfl 7 (by decide) qw_666 rfl rfl rfl (by cases x <;> rfl) (by cases x <;> rfl) hl hdg kk
theorem gX5_28 (F : wa_fx p s m c meth args cc nL RX5 nm ret D cy) (hw : wa_wd D ad C H) (he : C kd i = some (.inr (5, fs))) (hv : fs[9]? = some v) (hdg : decode cc pc = .ok (.getfield 28, 3)) (kk : W p l e R s m args below meth c H locs cells slots Q (F0 m (pc + 3) ls (v :: rest))) : W p l e R s m args below meth c H locs cells slots Q (F0 m pc ls (.ref (ad kd i) :: rest)) := wa_get F hw he inF5 rfl 9 (by decide) qw_668 rfl hv hdg kk
theorem pX5_28 {x : Option Nat} (F : wa_fx p s m c meth args cc nL RX5 nm ret D cy) (hin2 : nm = "<init>") (hw : wa_wd D ad C H) (hj : wa_wj A ad C) (hS : va_S A H0 H locs) (he : C kd i = some (.inr (5, fs))) (hl : 9 < fs.length) (hdg : decode cc pc = .ok (.putfield 28, 3)) (kk : ∀ (H1 : Heap) (locs1 : List Loc), wa_wd D ad (wa_up C kd i (.inr (5, fs.set 9 (va_rf x)))) H1 → va_S A H0 H1 locs1 → W p l e R s m args below meth c H1 locs1 cells slots Q (F0 m (pc + 3) ls (rest))) : W p l e R s m args below meth c H locs cells slots Q (F0 m pc ls (va_rf x :: .ref (ad kd i) :: rest)) := wa_putF F hin2 hw hj hS he inF5 tyX5 tyX5_ok nmX5 rfl 9 (by decide) qw_668 rfl rfl rfl (by cases x <;> rfl) (by cases x <;> rfl) hl hdg kk
theorem gX5_31 (F : wa_fx p s m c meth args cc nL RX5 nm ret D cy) (hw : wa_wd D ad C H) (he : C kd i = some (.inr (5, fs))) (hv : fs[10]? = some v) (hdg : decode cc pc = .ok (.getfield 31, 3)) (kk : W p l e R s m args below meth c H locs cells slots Q (F0 m (pc + 3) ls (v :: rest))) : W p l e R s m args below meth c H locs cells slots Q (F0 m pc ls (.ref (ad kd i) :: rest)) := wa_get F hw he inF5 rfl 10 (by decide) qw_669 rfl hv hdg kk
theorem pX5_31 {x : Option Nat} (F : wa_fx p s m c meth args cc nL RX5 nm ret D cy) (hin2 : nm = "<init>") (hw : wa_wd D ad C H) (hj : wa_wj A ad C) (hS : va_S A H0 H locs) (he : C kd i = some (.inr (5, fs))) (hl : 10 < fs.length) (hdg : decode cc pc = .ok (.putfield 31, 3)) (kk : ∀ (H1 : Heap) (locs1 : List Loc), wa_wd D ad (wa_up C kd i (.inr (5, fs.set 10 (va_rf x)))) H1 → va_S A H0 H1 locs1 → W p l e R s m args below meth c H1 locs1 cells slots Q (F0 m (pc + 3) ls (rest))) : W p l e R s m args below meth c H locs cells slots Q (F0 m pc ls (va_rf x :: .ref (ad kd i) :: rest)) := wa_putF F hin2 hw hj hS he inF5 tyX5 tyX5_ok nmX5 rfl 10 (by decide) qw_669 rfl rfl rfl (by cases x <;> rfl) (by cases x <;> rfl) hl hdg kk
theorem gX5_34 (F : wa_fx p s m c meth args cc nL RX5 nm ret D cy) (hw : wa_wd D ad C H) (he : C kd i = some (.inr (5, fs))) (hv : fs[11]? = some v) (hdg : decode cc pc = .ok (.getfield 34, 3)) (kk : W p l e R s m args below meth c H locs cells slots Q (F0 m (pc + 3) ls (v :: rest))) : W p l e R s m args below meth c H locs cells slots Q (F0 m pc ls (.ref (ad kd i) :: rest)) := wa_get F hw he inF5 rfl 11 (by decide) qw_670 rfl hv hdg kk
theorem pX5_34 {x : Option Nat} (F : wa_fx p s m c meth args cc nL RX5 nm ret D cy) (hin2 : nm = "<init>") (hw : wa_wd D ad C H) (hj : wa_wj A ad C) (hS : va_S A H0 H locs) (he : C kd i = some (.inr (5, fs))) (hl : 11 < fs.length) (hdg : decode cc pc = .ok (.putfield 34, 3)) (kk : ∀ (H1 : Heap) (locs1 : List Loc), wa_wd D ad (wa_up C kd i (.inr (5, fs.set 11 (va_rf x)))) H1 → va_S A H0 H1 locs1 → W p l e R s m args below meth c H1 locs1 cells slots Q (F0 m (pc + 3) ls (rest))) : W p l e R s m args below meth c H locs cells slots Q (F0 m pc ls (va_rf x :: .ref (ad kd i) :: rest)) := wa_putF F hin2 hw hj hS he inF5 tyX5 tyX5_ok nmX5 rfl 11 (by decide) qw_670 rfl rfl rfl (by cases x <;> rfl) (by cases x <;> rfl) hl hdg kk
theorem gX5_37 (F : wa_fx p s m c meth args cc nL RX5 nm ret D cy) (hw : wa_wd D ad C H) (he : C kd i = some (.inr (5, fs))) (hv : fs[13]? = some v) (hdg : decode cc pc = .ok (.getfield 37, 3)) (kk : W p l e R s m args below meth c H locs cells slots Q (F0 m (pc + 3) ls (v :: rest))) : W p l e R s m args below meth c H locs cells slots Q (F0 m pc ls (.ref (ad kd i) :: rest)) := wa_get F hw he inF5 rfl 13 (by decide) qw_672 rfl hv hdg kk
theorem pX5_37 {x : Option Nat} (F : wa_fx p s m c meth args cc nL RX5 nm ret D cy) (hin2 : nm = "<init>") (hw : wa_wd D ad C H) (hj : wa_wj A ad C) (hS : va_S A H0 H locs) (he : C kd i = some (.inr (5, fs))) (hl : 13 < fs.length) (hdg : decode cc pc = .ok (.putfield 37, 3)) (kk : ∀ (H1 : Heap) (locs1 : List Loc), wa_wd D ad (wa_up C kd i (.inr (5, fs.set 13 (va_rf x)))) H1 → va_S A H0 H1 locs1 → W p l e R s m args below meth c H1 locs1 cells slots Q (F0 m (pc + 3) ls (rest))) : W p l e R s m args below meth c H locs cells slots Q (F0 m pc ls (va_rf x :: .ref (ad kd i) :: rest)) := wa_putF F hin2 hw hj hS he inF5 tyX5 tyX5_ok nmX5 rfl 13 (by decide) qw_672 rfl rfl rfl (by cases x <;> rfl) (by cases x <;> rfl) hl hdg kk
theorem gX5_40 (F : wa_fx p s m c meth args cc nL RX5 nm ret D cy) (hw : wa_wd D ad C H) (he : C kd i = some (.inr (5, fs))) (hv : fs[14]? = some v) (hdg : decode cc pc = .ok (.getfield 40, 3)) (kk : W p l e R s m args below meth c H locs cells slots Q (F0 m (pc + 3) ls (v :: rest))) : W p l e R s m args below meth c H locs cells slots Q (F0 m pc ls (.ref (ad kd i) :: rest)) := wa_get F hw he inF5 rfl 14 (by decide) qw_673 rfl hv hdg kk
theorem pX5_40 {x : Option Nat} (F : wa_fx p s m c meth args cc nL RX5 nm ret D cy) (hin2 : nm = "<init>") (hw : wa_wd D ad C H) (hj : wa_wj A ad C) (hS : va_S A H0 H locs) (he : C kd i = some (.inr (5, fs))) (hl : 14 < fs.length) (hdg : decode cc pc = .ok (.putfield 40, 3)) (kk : ∀ (H1 : Heap) (locs1 : List Loc), wa_wd D ad (wa_up C kd i (.inr (5, fs.set 14 (va_rf x)))) H1 → va_S A H0 H1 locs1 → W p l e R s m args below meth c H1 locs1 cells slots Q (F0 m (pc + 3) ls (rest))) : W p l e R s m args below meth c H locs cells slots Q (F0 m pc ls (va_rf x :: .ref (ad kd i) :: rest)) := wa_putF F hin2 hw hj hS he inF5 tyX5 tyX5_ok nmX5 rfl 14 (by decide) qw_673 rfl rfl rfl (by cases x <;> rfl) (by cases x <;> rfl) hl hdg kk
theorem gX5_43 (F : wa_fx p s m c meth args cc nL RX5 nm ret D cy) (hw : wa_wd D ad C H) (he : C kd i = some (.inr (5, fs))) (hv : fs[15]? = some v) (hdg : decode cc pc = .ok (.getfield 43, 3)) (kk : W p l e R s m args below meth c H locs cells slots Q (F0 m (pc + 3) ls (v :: rest))) : W p l e R s m args below meth c H locs cells slots Q (F0 m pc ls (.ref (ad kd i) :: rest)) := wa_get F hw he inF5 rfl 15 (by decide) qw_674 rfl hv hdg kk
theorem pX5_43 {x : Option Nat} (F : wa_fx p s m c meth args cc nL RX5 nm ret D cy) (hin2 : nm = "<init>") (hw : wa_wd D ad C H) (hj : wa_wj A ad C) (hS : va_S A H0 H locs) (he : C kd i = some (.inr (5, fs))) (hl : 15 < fs.length) (hdg : decode cc pc = .ok (.putfield 43, 3)) (kk : ∀ (H1 : Heap) (locs1 : List Loc), wa_wd D ad (wa_up C kd i (.inr (5, fs.set 15 (va_rf x)))) H1 → va_S A H0 H1 locs1 → W p l e R s m args below meth c H1 locs1 cells slots Q (F0 m (pc + 3) ls (rest))) : W p l e R s m args below meth c H locs cells slots Q (F0 m pc ls (va_rf x :: .ref (ad kd i) :: rest)) := wa_putF F hin2 hw hj hS he inF5 tyX5 tyX5_ok nmX5 rfl 15 (by decide) qw_674 rfl rfl rfl (by cases x <;> rfl) (by cases x <;> rfl) hl hdg kk
theorem gX5_46 (F : wa_fx p s m c meth args cc nL RX5 nm ret D cy) (hw : wa_wd D ad C H) (he : C kd i = some (.inr (5, fs))) (hv : fs[16]? = some v) (hdg : decode cc pc = .ok (.getfield 46, 3)) (kk : W p l e R s m args below meth c H locs cells slots Q (F0 m (pc + 3) ls (v :: rest))) : W p l e R s m args below meth c H locs cells slots Q (F0 m pc ls (.ref (ad kd i) :: rest)) := wa_get F hw he inF5 rfl 16 (by decide) qw_675 rfl hv hdg kk
theorem pX5_46 {x : Option Nat} (F : wa_fx p s m c meth args cc nL RX5 nm ret D cy) (hin2 : nm = "<init>") (hw : wa_wd D ad C H) (hj : wa_wj A ad C) (hS : va_S A H0 H locs) (he : C kd i = some (.inr (5, fs))) (hl : 16 < fs.length) (hdg : decode cc pc = .ok (.putfield 46, 3)) (kk : ∀ (H1 : Heap) (locs1 : List Loc), wa_wd D ad (wa_up C kd i (.inr (5, fs.set 16 (va_rf x)))) H1 → va_S A H0 H1 locs1 → W p l e R s m args below meth c H1 locs1 cells slots Q (F0 m (pc + 3) ls (rest))) : W p l e R s m args below meth c H locs cells slots Q (F0 m pc ls (va_rf x :: .ref (ad kd i) :: rest)) := wa_putF F hin2 hw hj hS he inF5 tyX5 tyX5_ok nmX5 rfl 16 (by decide) qw_675 rfl rfl rfl (by cases x <;> rfl) (by cases x <;> rfl) hl hdg kk
theorem gX5_49 (F : wa_fx p s m c meth args cc nL RX5 nm ret D cy) (hw : wa_wd D ad C H) (he : C kd i = some (.inr (5, fs))) (hv : fs[17]? = some v) (hdg : decode cc pc = .ok (.getfield 49, 3)) (kk : W p l e R s m args below meth c H locs cells slots Q (F0 m (pc + 3) ls (v :: rest))) : W p l e R s m args below meth c H locs cells slots Q (F0 m pc ls (.ref (ad kd i) :: rest)) := wa_get F hw he inF5 rfl 17 (by decide) qw_676 rfl hv hdg kk
theorem pX5_49 {x : Option Nat} (F : wa_fx p s m c meth args cc nL RX5 nm ret D cy) (hin2 : nm = "<init>") (hw : wa_wd D ad C H) (hj : wa_wj A ad C) (hS : va_S A H0 H locs) (he : C kd i = some (.inr (5, fs))) (hl : 17 < fs.length) (hdg : decode cc pc = .ok (.putfield 49, 3)) (kk : ∀ (H1 : Heap) (locs1 : List Loc), wa_wd D ad (wa_up C kd i (.inr (5, fs.set 17 (va_rf x)))) H1 → va_S A H0 H1 locs1 → W p l e R s m args below meth c H1 locs1 cells slots Q (F0 m (pc + 3) ls (rest))) : W p l e R s m args below meth c H locs cells slots Q (F0 m pc ls (va_rf x :: .ref (ad kd i) :: rest)) := wa_putF F hin2 hw hj hS he inF5 tyX5 tyX5_ok nmX5 rfl 17 (by decide) qw_676 rfl rfl rfl (by cases x <;> rfl) (by cases x <;> rfl) hl hdg kk
theorem gX5_53 (F : wa_fx p s m c meth args cc nL RX5 nm ret D cy) (hw : wa_wd D ad C H) (he : C kd i = some (.inr (5, fs))) (hv : fs[18]? = some v) (hdg : decode cc pc = .ok (.getfield 53, 3)) (kk : W p l e R s m args below meth c H locs cells slots Q (F0 m (pc + 3) ls (v :: rest))) : W p l e R s m args below meth c H locs cells slots Q (F0 m pc ls (.ref (ad kd i) :: rest)) := wa_get F hw he inF5 rfl 18 (by decide) qw_677 rfl hv hdg kk
theorem pX5_53 {x : Option Nat} (F : wa_fx p s m c meth args cc nL RX5 nm ret D cy) (hin2 : nm = "<init>") (hw : wa_wd D ad C H) (hj : wa_wj A ad C) (hS : va_S A H0 H locs) (he : C kd i = some (.inr (5, fs))) (hl : 18 < fs.length) (hdg : decode cc pc = .ok (.putfield 53, 3)) (kk : ∀ (H1 : Heap) (locs1 : List Loc), wa_wd D ad (wa_up C kd i (.inr (5, fs.set 18 (va_rf x)))) H1 → va_S A H0 H1 locs1 → W p l e R s m args below meth c H1 locs1 cells slots Q (F0 m (pc + 3) ls (rest))) : W p l e R s m args below meth c H locs cells slots Q (F0 m pc ls (va_rf x :: .ref (ad kd i) :: rest)) := wa_putF F hin2 hw hj hS he inF5 tyX5 tyX5_ok nmX5 rfl 18 (by decide) qw_677 rfl rfl rfl (by cases x <;> rfl) (by cases x <;> rfl) hl hdg kk
theorem gX5_56 (F : wa_fx p s m c meth args cc nL RX5 nm ret D cy) (hw : wa_wd D ad C H) (he : C kd i = some (.inr (5, fs))) (hv : fs[19]? = some v) (hdg : decode cc pc = .ok (.getfield 56, 3)) (kk : W p l e R s m args below meth c H locs cells slots Q (F0 m (pc + 3) ls (v :: rest))) : W p l e R s m args below meth c H locs cells slots Q (F0 m pc ls (.ref (ad kd i) :: rest)) := wa_get F hw he inF5 rfl 19 (by decide) qw_678 rfl hv hdg kk
theorem pX5_56 {x : Option Nat} (F : wa_fx p s m c meth args cc nL RX5 nm ret D cy) (hin2 : nm = "<init>") (hw : wa_wd D ad C H) (hj : wa_wj A ad C) (hS : va_S A H0 H locs) (he : C kd i = some (.inr (5, fs))) (hl : 19 < fs.length) (hdg : decode cc pc = .ok (.putfield 56, 3)) (kk : ∀ (H1 : Heap) (locs1 : List Loc), wa_wd D ad (wa_up C kd i (.inr (5, fs.set 19 (va_rf x)))) H1 → va_S A H0 H1 locs1 → W p l e R s m args below meth c H1 locs1 cells slots Q (F0 m (pc + 3) ls (rest))) : W p l e R s m args below meth c H locs cells slots Q (F0 m pc ls (va_rf x :: .ref (ad kd i) :: rest)) := wa_putF F hin2 hw hj hS he inF5 tyX5 tyX5_ok nmX5 rfl 19 (by decide) qw_678 rfl rfl rfl (by cases x <;> rfl) (by cases x <;> rfl) hl hdg kk
theorem gX5_59 (F : wa_fx p s m c meth args cc nL RX5 nm ret D cy) (hw : wa_wd D ad C H) (he : C kd i = some (.inr (5, fs))) (hv : fs[20]? = some v) (hdg : decode cc pc = .ok (.getfield 59, 3)) (kk : W p l e R s m args below meth c H locs cells slots Q (F0 m (pc + 3) ls (v :: rest))) : W p l e R s m args below meth c H locs cells slots Q (F0 m pc ls (.ref (ad kd i) :: rest)) := wa_get F hw he inF5 rfl 20 (by decide) qw_679 rfl hv hdg kk
theorem pX5_59 {x : Option Nat} (F : wa_fx p s m c meth args cc nL RX5 nm ret D cy) (hin2 : nm = "<init>") (hw : wa_wd D ad C H) (hj : wa_wj A ad C) (hS : va_S A H0 H locs) (he : C kd i = some (.inr (5, fs))) (hl : 20 < fs.length) (hdg : decode cc pc = .ok (.putfield 59, 3)) (kk : ∀ (H1 : Heap) (locs1 : List Loc), wa_wd D ad (wa_up C kd i (.inr (5, fs.set 20 (va_rf x)))) H1 → va_S A H0 H1 locs1 → W p l e R s m args below meth c H1 locs1 cells slots Q (F0 m (pc + 3) ls (rest))) : W p l e R s m args below meth c H locs cells slots Q (F0 m pc ls (va_rf x :: .ref (ad kd i) :: rest)) := wa_putF F hin2 hw hj hS he inF5 tyX5 tyX5_ok nmX5 rfl 20 (by decide) qw_679 rfl rfl rfl (by cases x <;> rfl) (by cases x <;> rfl) hl hdg kk
theorem gX5_62 (F : wa_fx p s m c meth args cc nL RX5 nm ret D cy) (hw : wa_wd D ad C H) (he : C kd i = some (.inr (5, fs))) (hv : fs[22]? = some v) (hdg : decode cc pc = .ok (.getfield 62, 3)) (kk : W p l e R s m args below meth c H locs cells slots Q (F0 m (pc + 3) ls (v :: rest))) : W p l e R s m args below meth c H locs cells slots Q (F0 m pc ls (.ref (ad kd i) :: rest)) := wa_get F hw he inF5 rfl 22 (by decide) qw_681 rfl hv hdg kk
theorem pX5_62 {x : Option Nat} (F : wa_fx p s m c meth args cc nL RX5 nm ret D cy) (hin2 : nm = "<init>") (hw : wa_wd D ad C H) (hj : wa_wj A ad C) (hS : va_S A H0 H locs) (he : C kd i = some (.inr (5, fs))) (hl : 22 < fs.length) (hdg : decode cc pc = .ok (.putfield 62, 3)) (kk : ∀ (H1 : Heap) (locs1 : List Loc), wa_wd D ad (wa_up C kd i (.inr (5, fs.set 22 (va_rf x)))) H1 → va_S A H0 H1 locs1 → W p l e R s m args below meth c H1 locs1 cells slots Q (F0 m (pc + 3) ls (rest))) : W p l e R s m args below meth c H locs cells slots Q (F0 m pc ls (va_rf x :: .ref (ad kd i) :: rest)) := wa_putF F hin2 hw hj hS he inF5 tyX5 tyX5_ok nmX5 rfl 22 (by decide) qw_681 rfl rfl rfl (by cases x <;> rfl) (by cases x <;> rfl) hl hdg kk
theorem gX5_65 (F : wa_fx p s m c meth args cc nL RX5 nm ret D cy) (hw : wa_wd D ad C H) (he : C kd i = some (.inr (5, fs))) (hv : fs[23]? = some v) (hdg : decode cc pc = .ok (.getfield 65, 3)) (kk : W p l e R s m args below meth c H locs cells slots Q (F0 m (pc + 3) ls (v :: rest))) : W p l e R s m args below meth c H locs cells slots Q (F0 m pc ls (.ref (ad kd i) :: rest)) := wa_get F hw he inF5 rfl 23 (by decide) qw_682 rfl hv hdg kk
theorem pX5_65 {x : Int} (F : wa_fx p s m c meth args cc nL RX5 nm ret D cy) (hw : wa_wd D ad C H) (hj : wa_wj A ad C) (hS : va_S A H0 H locs) (he : C kd i = some (.inr (5, fs))) (hl : 23 < fs.length) (hdg : decode cc pc = .ok (.putfield 65, 3)) (kk : ∀ (H1 : Heap) (locs1 : List Loc), wa_wd D ad (wa_up C kd i (.inr (5, fs.set 23 (.int (iI x))))) H1 → va_S A H0 H1 locs1 → W p l e R s m args below meth c H1 locs1 cells slots Q (F0 m (pc + 3) ls (rest))) : W p l e R s m args below meth c H locs cells slots Q (F0 m pc ls (.int (iI x) :: .ref (ad kd i) :: rest)) := wa_put F hw hj hS he inF5 tyX5 tyX5_ok nmX5 rfl 23 (by decide) qw_682 rfl rfl rfl rfl hl hdg kk
theorem gX5_69 (F : wa_fx p s m c meth args cc nL RX5 nm ret D cy) (hw : wa_wd D ad C H) (he : C kd i = some (.inr (5, fs))) (hv : fs[24]? = some v) (hdg : decode cc pc = .ok (.getfield 69, 3)) (kk : W p l e R s m args below meth c H locs cells slots Q (F0 m (pc + 3) ls (v :: rest))) : W p l e R s m args below meth c H locs cells slots Q (F0 m pc ls (.ref (ad kd i) :: rest)) := wa_get F hw he inF5 rfl 24 (by decide) qw_683 rfl hv hdg kk
theorem pX5_69 {x : Int} (F : wa_fx p s m c meth args cc nL RX5 nm ret D cy) (hw : wa_wd D ad C H) (hj : wa_wj A ad C) (hS : va_S A H0 H locs) (he : C kd i = some (.inr (5, fs))) (hl : 24 < fs.length) (hdg : decode cc pc = .ok (.putfield 69, 3)) (kk : ∀ (H1 : Heap) (locs1 : List Loc), wa_wd D ad (wa_up C kd i (.inr (5, fs.set 24 (.int (iI x))))) H1 → va_S A H0 H1 locs1 → W p l e R s m args below meth c H1 locs1 cells slots Q (F0 m (pc + 3) ls (rest))) : W p l e R s m args below meth c H locs cells slots Q (F0 m pc ls (.int (iI x) :: .ref (ad kd i) :: rest)) := wa_put F hw hj hS he inF5 tyX5 tyX5_ok nmX5 rfl 24 (by decide) qw_683 rfl rfl rfl rfl hl hdg kk
theorem gX5_72 (F : wa_fx p s m c meth args cc nL RX5 nm ret D cy) (hw : wa_wd D ad C H) (he : C kd i = some (.inr (5, fs))) (hv : fs[25]? = some v) (hdg : decode cc pc = .ok (.getfield 72, 3)) (kk : W p l e R s m args below meth c H locs cells slots Q (F0 m (pc + 3) ls (v :: rest))) : W p l e R s m args below meth c H locs cells slots Q (F0 m pc ls (.ref (ad kd i) :: rest)) := wa_get F hw he inF5 rfl 25 (by decide) qw_684 rfl hv hdg kk
theorem pX5_72 {x : Option Nat} (F : wa_fx p s m c meth args cc nL RX5 nm ret D cy) (hin2 : nm = "<init>") (hw : wa_wd D ad C H) (hj : wa_wj A ad C) (hS : va_S A H0 H locs) (he : C kd i = some (.inr (5, fs))) (hl : 25 < fs.length) (hdg : decode cc pc = .ok (.putfield 72, 3)) (kk : ∀ (H1 : Heap) (locs1 : List Loc), wa_wd D ad (wa_up C kd i (.inr (5, fs.set 25 (va_rf x)))) H1 → va_S A H0 H1 locs1 → W p l e R s m args below meth c H1 locs1 cells slots Q (F0 m (pc + 3) ls (rest))) : W p l e R s m args below meth c H locs cells slots Q (F0 m pc ls (va_rf x :: .ref (ad kd i) :: rest)) := wa_putF F hin2 hw hj hS he inF5 tyX5 tyX5_ok nmX5 rfl 25 (by decide) qw_684 rfl rfl rfl (by cases x <;> rfl) (by cases x <;> rfl) hl hdg kk
theorem gX5_75 (F : wa_fx p s m c meth args cc nL RX5 nm ret D cy) (hw : wa_wd D ad C H) (he : C kd i = some (.inr (5, fs))) (hv : fs[26]? = some v) (hdg : decode cc pc = .ok (.getfield 75, 3)) (kk : W p l e R s m args below meth c H locs cells slots Q (F0 m (pc + 3) ls (v :: rest))) : W p l e R s m args below meth c H locs cells slots Q (F0 m pc ls (.ref (ad kd i) :: rest)) := wa_get F hw he inF5 rfl 26 (by decide) qw_685 rfl hv hdg kk
theorem pX5_75 {x : Option Nat} (F : wa_fx p s m c meth args cc nL RX5 nm ret D cy) (hin2 : nm = "<init>") (hw : wa_wd D ad C H) (hj : wa_wj A ad C) (hS : va_S A H0 H locs) (he : C kd i = some (.inr (5, fs))) (hl : 26 < fs.length) (hdg : decode cc pc = .ok (.putfield 75, 3)) (kk : ∀ (H1 : Heap) (locs1 : List Loc), wa_wd D ad (wa_up C kd i (.inr (5, fs.set 26 (va_rf x)))) H1 → va_S A H0 H1 locs1 → W p l e R s m args below meth c H1 locs1 cells slots Q (F0 m (pc + 3) ls (rest))) : W p l e R s m args below meth c H locs cells slots Q (F0 m pc ls (va_rf x :: .ref (ad kd i) :: rest)) := wa_putF F hin2 hw hj hS he inF5 tyX5 tyX5_ok nmX5 rfl 26 (by decide) qw_685 rfl rfl rfl (by cases x <;> rfl) (by cases x <;> rfl) hl hdg kk
theorem gX5_78 (F : wa_fx p s m c meth args cc nL RX5 nm ret D cy) (hw : wa_wd D ad C H) (he : C kd i = some (.inr (5, fs))) (hv : fs[27]? = some v) (hdg : decode cc pc = .ok (.getfield 78, 3)) (kk : W p l e R s m args below meth c H locs cells slots Q (F0 m (pc + 3) ls (v :: rest))) : W p l e R s m args below meth c H locs cells slots Q (F0 m pc ls (.ref (ad kd i) :: rest)) := wa_get F hw he inF5 rfl 27 (by decide) qw_686 rfl hv hdg kk
theorem pX5_78 {x : Option Nat} (F : wa_fx p s m c meth args cc nL RX5 nm ret D cy) (hin2 : nm = "<init>") (hw : wa_wd D ad C H) (hj : wa_wj A ad C) (hS : va_S A H0 H locs) (he : C kd i = some (.inr (5, fs))) (hl : 27 < fs.length) (hdg : decode cc pc = .ok (.putfield 78, 3)) (kk : ∀ (H1 : Heap) (locs1 : List Loc), wa_wd D ad (wa_up C kd i (.inr (5, fs.set 27 (va_rf x)))) H1 → va_S A H0 H1 locs1 → W p l e R s m args below meth c H1 locs1 cells slots Q (F0 m (pc + 3) ls (rest))) : W p l e R s m args below meth c H locs cells slots Q (F0 m pc ls (va_rf x :: .ref (ad kd i) :: rest)) := wa_putF F hin2 hw hj hS he inF5 tyX5 tyX5_ok nmX5 rfl 27 (by decide) qw_686 rfl rfl rfl (by cases x <;> rfl) (by cases x <;> rfl) hl hdg kk
theorem gX5_81 (F : wa_fx p s m c meth args cc nL RX5 nm ret D cy) (hw : wa_wd D ad C H) (he : C kd i = some (.inr (5, fs))) (hv : fs[28]? = some v) (hdg : decode cc pc = .ok (.getfield 81, 3)) (kk : W p l e R s m args below meth c H locs cells slots Q (F0 m (pc + 3) ls (v :: rest))) : W p l e R s m args below meth c H locs cells slots Q (F0 m pc ls (.ref (ad kd i) :: rest)) := wa_get F hw he inF5 rfl 28 (by decide) qw_687 rfl hv hdg kk
theorem pX5_81 {x : Option Nat} (F : wa_fx p s m c meth args cc nL RX5 nm ret D cy) (hin2 : nm = "<init>") (hw : wa_wd D ad C H) (hj : wa_wj A ad C) (hS : va_S A H0 H locs) (he : C kd i = some (.inr (5, fs))) (hl : 28 < fs.length) (hdg : decode cc pc = .ok (.putfield 81, 3)) (kk : ∀ (H1 : Heap) (locs1 : List Loc), wa_wd D ad (wa_up C kd i (.inr (5, fs.set 28 (va_rf x)))) H1 → va_S A H0 H1 locs1 → W p l e R s m args below meth c H1 locs1 cells slots Q (F0 m (pc + 3) ls (rest))) : W p l e R s m args below meth c H locs cells slots Q (F0 m pc ls (va_rf x :: .ref (ad kd i) :: rest)) := wa_putF F hin2 hw hj hS he inF5 tyX5 tyX5_ok nmX5 rfl 28 (by decide) qw_687 rfl rfl rfl (by cases x <;> rfl) (by cases x <;> rfl) hl hdg kk
theorem gX5_84 (F : wa_fx p s m c meth args cc nL RX5 nm ret D cy) (hw : wa_wd D ad C H) (he : C kd i = some (.inr (5, fs))) (hv : fs[30]? = some v) (hdg : decode cc pc = .ok (.getfield 84, 3)) (kk : W p l e R s m args below meth c H locs cells slots Q (F0 m (pc + 3) ls (v :: rest))) : W p l e R s m args below meth c H locs cells slots Q (F0 m pc ls (.ref (ad kd i) :: rest)) := wa_get F hw he inF5 rfl 30 (by decide) qw_689 rfl hv hdg kk
theorem pX5_84 {x : Option Nat} (F : wa_fx p s m c meth args cc nL RX5 nm ret D cy) (hin2 : nm = "<init>") (hw : wa_wd D ad C H) (hj : wa_wj A ad C) (hS : va_S A H0 H locs) (he : C kd i = some (.inr (5, fs))) (hl : 30 < fs.length) (hdg : decode cc pc = .ok (.putfield 84, 3)) (kk : ∀ (H1 : Heap) (locs1 : List Loc), wa_wd D ad (wa_up C kd i (.inr (5, fs.set 30 (va_rf x)))) H1 → va_S A H0 H1 locs1 → W p l e R s m args below meth c H1 locs1 cells slots Q (F0 m (pc + 3) ls (rest))) : W p l e R s m args below meth c H locs cells slots Q (F0 m pc ls (va_rf x :: .ref (ad kd i) :: rest)) := wa_putF F hin2 hw hj hS he inF5 tyX5 tyX5_ok nmX5 rfl 30 (by decide) qw_689 rfl rfl rfl (by cases x <;> rfl) (by cases x <;> rfl) hl hdg kk
theorem gX5_87 (F : wa_fx p s m c meth args cc nL RX5 nm ret D cy) (hw : wa_wd D ad C H) (he : C kd i = some (.inr (5, fs))) (hv : fs[31]? = some v) (hdg : decode cc pc = .ok (.getfield 87, 3)) (kk : W p l e R s m args below meth c H locs cells slots Q (F0 m (pc + 3) ls (v :: rest))) : W p l e R s m args below meth c H locs cells slots Q (F0 m pc ls (.ref (ad kd i) :: rest)) := wa_get F hw he inF5 rfl 31 (by decide) qw_690 rfl hv hdg kk
theorem pX5_87 {x : Option Nat} (F : wa_fx p s m c meth args cc nL RX5 nm ret D cy) (hin2 : nm = "<init>") (hw : wa_wd D ad C H) (hj : wa_wj A ad C) (hS : va_S A H0 H locs) (he : C kd i = some (.inr (5, fs))) (hl : 31 < fs.length) (hdg : decode cc pc = .ok (.putfield 87, 3)) (kk : ∀ (H1 : Heap) (locs1 : List Loc), wa_wd D ad (wa_up C kd i (.inr (5, fs.set 31 (va_rf x)))) H1 → va_S A H0 H1 locs1 → W p l e R s m args below meth c H1 locs1 cells slots Q (F0 m (pc + 3) ls (rest))) : W p l e R s m args below meth c H locs cells slots Q (F0 m pc ls (va_rf x :: .ref (ad kd i) :: rest)) := wa_putF F hin2 hw hj hS he inF5 tyX5 tyX5_ok nmX5 rfl 31 (by decide) qw_690 rfl rfl rfl (by cases x <;> rfl) (by cases x <;> rfl) hl hdg kk
theorem gX5_90 (F : wa_fx p s m c meth args cc nL RX5 nm ret D cy) (hw : wa_wd D ad C H) (he : C kd i = some (.inr (5, fs))) (hv : fs[0]? = some v) (hdg : decode cc pc = .ok (.getfield 90, 3)) (kk : W p l e R s m args below meth c H locs cells slots Q (F0 m (pc + 3) ls (v :: rest))) : W p l e R s m args below meth c H locs cells slots Q (F0 m pc ls (.ref (ad kd i) :: rest)) := wa_get F hw he inF5 rfl 0 (by decide) qw_659 rfl hv hdg kk
theorem pX5_90 {x : Int} (F : wa_fx p s m c meth args cc nL RX5 nm ret D cy) (hw : wa_wd D ad C H) (hj : wa_wj A ad C) (hS : va_S A H0 H locs) (he : C kd i = some (.inr (5, fs))) (hl : 0 < fs.length) (hdg : decode cc pc = .ok (.putfield 90, 3)) (kk : ∀ (H1 : Heap) (locs1 : List Loc), wa_wd D ad (wa_up C kd i (.inr (5, fs.set 0 (.int (iI x))))) H1 → va_S A H0 H1 locs1 → W p l e R s m args below meth c H1 locs1 cells slots Q (F0 m (pc + 3) ls (rest))) : W p l e R s m args below meth c H locs cells slots Q (F0 m pc ls (.int (iI x) :: .ref (ad kd i) :: rest)) := wa_put F hw hj hS he inF5 tyX5 tyX5_ok nmX5 rfl 0 (by decide) qw_659 rfl rfl rfl rfl hl hdg kk
theorem gX5_93 (F : wa_fx p s m c meth args cc nL RX5 nm ret D cy) (hw : wa_wd D ad C H) (he : C kd i = some (.inr (5, fs))) (hv : fs[8]? = some v) (hdg : decode cc pc = .ok (.getfield 93, 3)) (kk : W p l e R s m args below meth c H locs cells slots Q (F0 m (pc + 3) ls (v :: rest))) : W p l e R s m args below meth c H locs cells slots Q (F0 m pc ls (.ref (ad kd i) :: rest)) := wa_get F hw he inF5 rfl 8 (by decide) qw_667 rfl hv hdg kk
theorem pX5_93 {x : Int} (F : wa_fx p s m c meth args cc nL RX5 nm ret D cy) (hw : wa_wd D ad C H) (hj : wa_wj A ad C) (hS : va_S A H0 H locs) (he : C kd i = some (.inr (5, fs))) (hl : 8 < fs.length) (hdg : decode cc pc = .ok (.putfield 93, 3)) (kk : ∀ (H1 : Heap) (locs1 : List Loc), wa_wd D ad (wa_up C kd i (.inr (5, fs.set 8 (.int (iI x))))) H1 → va_S A H0 H1 locs1 → W p l e R s m args below meth c H1 locs1 cells slots Q (F0 m (pc + 3) ls (rest))) : W p l e R s m args below meth c H locs cells slots Q (F0 m pc ls (.int (iI x) :: .ref (ad kd i) :: rest)) := wa_put F hw hj hS he inF5 tyX5 tyX5_ok nmX5 rfl 8 (by decide) qw_667 rfl rfl rfl rfl hl hdg kk
theorem gX5_100 (F : wa_fx p s m c meth args cc nL RX5 nm ret D cy) (hw : wa_wd D ad C H) (he : C kd i = some (.inr (5, fs))) (hv : fs[21]? = some v) (hdg : decode cc pc = .ok (.getfield 100, 3)) (kk : W p l e R s m args below meth c H locs cells slots Q (F0 m (pc + 3) ls (v :: rest))) : W p l e R s m args below meth c H locs cells slots Q (F0 m pc ls (.ref (ad kd i) :: rest)) := wa_get F hw he inF5 rfl 21 (by decide) qw_680 rfl hv hdg kk
theorem pX5_100 {x : Int} (F : wa_fx p s m c meth args cc nL RX5 nm ret D cy) (hw : wa_wd D ad C H) (hj : wa_wj A ad C) (hS : va_S A H0 H locs) (he : C kd i = some (.inr (5, fs))) (hl : 21 < fs.length) (hdg : decode cc pc = .ok (.putfield 100, 3)) (kk : ∀ (H1 : Heap) (locs1 : List Loc), wa_wd D ad (wa_up C kd i (.inr (5, fs.set 21 (.int (iI x))))) H1 → va_S A H0 H1 locs1 → W p l e R s m args below meth c H1 locs1 cells slots Q (F0 m (pc + 3) ls (rest))) : W p l e R s m args below meth c H locs cells slots Q (F0 m pc ls (.int (iI x) :: .ref (ad kd i) :: rest)) := wa_put F hw hj hS he inF5 tyX5 tyX5_ok nmX5 rfl 21 (by decide) qw_680 rfl rfl rfl rfl hl hdg kk
theorem gX5_110 (F : wa_fx p s m c meth args cc nL RX5 nm ret D cy) (hw : wa_wd D ad C H) (he : C kd i = some (.inr (5, fs))) (hv : fs[12]? = some v) (hdg : decode cc pc = .ok (.getfield 110, 3)) (kk : W p l e R s m args below meth c H locs cells slots Q (F0 m (pc + 3) ls (v :: rest))) : W p l e R s m args below meth c H locs cells slots Q (F0 m pc ls (.ref (ad kd i) :: rest)) := wa_get F hw he inF5 rfl 12 (by decide) qw_671 rfl hv hdg kk
theorem pX5_110 {x : Int} (F : wa_fx p s m c meth args cc nL RX5 nm ret D cy) (hw : wa_wd D ad C H) (hj : wa_wj A ad C) (hS : va_S A H0 H locs) (he : C kd i = some (.inr (5, fs))) (hl : 12 < fs.length) (hdg : decode cc pc = .ok (.putfield 110, 3)) (kk : ∀ (H1 : Heap) (locs1 : List Loc), wa_wd D ad (wa_up C kd i (.inr (5, fs.set 12 (.int (iI x))))) H1 → va_S A H0 H1 locs1 → W p l e R s m args below meth c H1 locs1 cells slots Q (F0 m (pc + 3) ls (rest))) : W p l e R s m args below meth c H locs cells slots Q (F0 m pc ls (.int (iI x) :: .ref (ad kd i) :: rest)) := wa_put F hw hj hS he inF5 tyX5 tyX5_ok nmX5 rfl 12 (by decide) qw_671 rfl rfl rfl rfl hl hdg kk
theorem gX5_130 (F : wa_fx p s m c meth args cc nL RX5 nm ret D cy) (hw : wa_wd D ad C H) (he : C kd i = some (.inr (5, fs))) (hv : fs[1]? = some v) (hdg : decode cc pc = .ok (.getfield 130, 3)) (kk : W p l e R s m args below meth c H locs cells slots Q (F0 m (pc + 3) ls (v :: rest))) : W p l e R s m args below meth c H locs cells slots Q (F0 m pc ls (.ref (ad kd i) :: rest)) := wa_get F hw he inF5 rfl 1 (by decide) qw_660 rfl hv hdg kk
theorem pX5_130 {x : Int} (F : wa_fx p s m c meth args cc nL RX5 nm ret D cy) (hw : wa_wd D ad C H) (hj : wa_wj A ad C) (hS : va_S A H0 H locs) (he : C kd i = some (.inr (5, fs))) (hl : 1 < fs.length) (hdg : decode cc pc = .ok (.putfield 130, 3)) (kk : ∀ (H1 : Heap) (locs1 : List Loc), wa_wd D ad (wa_up C kd i (.inr (5, fs.set 1 (.int (iI x))))) H1 → va_S A H0 H1 locs1 → W p l e R s m args below meth c H1 locs1 cells slots Q (F0 m (pc + 3) ls (rest))) : W p l e R s m args below meth c H locs cells slots Q (F0 m pc ls (.int (iI x) :: .ref (ad kd i) :: rest)) := wa_put F hw hj hS he inF5 tyX5 tyX5_ok nmX5 rfl 1 (by decide) qw_660 rfl rfl rfl rfl hl hdg kk
theorem gX5_147 (F : wa_fx p s m c meth args cc nL RX5 nm ret D cy) (hw : wa_wd D ad C H) (he : C kd i = some (.inr (5, fs))) (hv : fs[29]? = some v) (hdg : decode cc pc = .ok (.getfield 147, 3)) (kk : W p l e R s m args below meth c H locs cells slots Q (F0 m (pc + 3) ls (v :: rest))) : W p l e R s m args below meth c H locs cells slots Q (F0 m pc ls (.ref (ad kd i) :: rest)) := wa_get F hw he inF5 rfl 29 (by decide) qw_688 rfl hv hdg kk
theorem pX5_147 {x : Int} (F : wa_fx p s m c meth args cc nL RX5 nm ret D cy) (hw : wa_wd D ad C H) (hj : wa_wj A ad C) (hS : va_S A H0 H locs) (he : C kd i = some (.inr (5, fs))) (hl : 29 < fs.length) (hdg : decode cc pc = .ok (.putfield 147, 3)) (kk : ∀ (H1 : Heap) (locs1 : List Loc), wa_wd D ad (wa_up C kd i (.inr (5, fs.set 29 (.int (iI x))))) H1 → va_S A H0 H1 locs1 → W p l e R s m args below meth c H1 locs1 cells slots Q (F0 m (pc + 3) ls (rest))) : W p l e R s m args below meth c H locs cells slots Q (F0 m pc ls (.int (iI x) :: .ref (ad kd i) :: rest)) := wa_put F hw hj hS he inF5 tyX5 tyX5_ok nmX5 rfl 29 (by decide) qw_688 rfl rfl rfl rfl hl hdg kk
abbrev wX4_init : List Cond := [.code yX4_init cX4_init 2 (none)]
abbrev wX2_init : List Cond := [.code yX2_init cX2_init 1 (none)]
abbrev wX4_layers : List Cond := [.code yX4_layers cX4_layers 1 (Option.some FieldType.int)]
abbrev wX4_bakes : List Cond := [.code yX4_bakes cX4_bakes 1 (Option.some FieldType.int)]
abbrev wX4_old : List Cond := [.code yX4_old cX4_old 1 (Option.some FieldType.int)]
abbrev wX4_fillWaiting : List Cond := [.code yX4_fillWaiting cX4_fillWaiting 6 (Option.some FieldType.int)]
abbrev wX4_mustRenew : List Cond := [.code yX4_mustRenew cX4_mustRenew 3 (Option.some FieldType.boolean)]
abbrev wX4_isTooOld : List Cond := [.code yX4_isTooOld cX4_isTooOld 2 (Option.some FieldType.boolean)]
abbrev wX4_bakeFor : List Cond := [.code yX4_bakeFor cX4_bakeFor 6 (Option.some (FieldType.object "ImageBaker$Bake"))]
abbrev wX4_canStart : List Cond := [.code yX4_canStart cX4_canStart 6 (Option.some FieldType.boolean)]
abbrev wX0_firstDayAt : List Cond := [.code yX0_firstDayAt cX0_firstDayAt 2 (Option.some FieldType.int)]
abbrev wX4_at : List Cond := [.code yX4_at cX4_at 2 (Option.some FieldType.int)]
abbrev wX4_insertWaiting : List Cond := [.code yX4_insertWaiting cX4_insertWaiting 4 (none)]
abbrev wX4_isAhead : List Cond := [.code yX4_isAhead cX4_isAhead 2 (Option.some FieldType.boolean)]
abbrev wX4_add : List Cond := [.code yX4_add cX4_add 4 (Option.some FieldType.int)]
abbrev wX4_imageAt : List Cond := [.code yX4_imageAt cX4_imageAt 3 (Option.some (FieldType.object "ImageBaker$Image"))]
abbrev wX1_init : List Cond := [.code yX1_init cX1_init 3 (none)]
abbrev wX4_step : List Cond := [.code yX4_step cX4_step 4 (Option.some FieldType.int)]
abbrev wX1_takesStep : List Cond := [.code yX1_takesStep cX1_takesStep 2 (Option.some FieldType.boolean)]
abbrev wX4_change : List Cond := [.code yX4_change cX4_change 3 (Option.some FieldType.int)]
abbrev wX4_bake : List Cond := [.code yX4_bake cX4_bake 3 (Option.some FieldType.int)]
abbrev wX4_needsBake : List Cond := [.code yX4_needsBake cX4_needsBake 2 (Option.some FieldType.boolean)]
abbrev wX4_beginOf : List Cond := [.code yX4_beginOf cX4_beginOf 1 (Option.some FieldType.int)]
abbrev wX4_topFrom : List Cond := [.code yX4_topFrom cX4_topFrom 6 (Option.some FieldType.int)]
abbrev wX2_find : List Cond := [.code yX2_find cX2_find 5 (Option.some FieldType.int)]
abbrev wX2_isOf : List Cond := [.code yX2_isOf cX2_isOf 4 (Option.some FieldType.boolean)]
abbrev wX4_bakeIfNeeded : List Cond := [.code yX4_bakeIfNeeded cX4_bakeIfNeeded 4 (none)]
abbrev wX4_makeTopFrom : List Cond := [.code yX4_makeTopFrom cX4_makeTopFrom 6 (Option.some FieldType.int)]
abbrev wX2_findOrMake : List Cond := [.code yX2_findOrMake cX2_findOrMake 6 (Option.some FieldType.int)]
abbrev wX0_init : List Cond := [.code yX0_init cX0_init 6 (none)]
abbrev wX4_numberOf : List Cond := [.code yX4_numberOf cX4_numberOf 1 (Option.some FieldType.int)]
abbrev wX4_bakeAll : List Cond := [.code yX4_bakeAll cX4_bakeAll 6 (Option.some FieldType.int)]
abbrev wX4_countBakesToCome : List Cond := [.code yX4_countBakesToCome cX4_countBakesToCome 7 (Option.some FieldType.int)]
abbrev wX4_fillLine : List Cond := [.code yX4_fillLine cX4_fillLine 3 (none)]
abbrev wX4_lineUpChildren : List Cond := [.code yX4_lineUpChildren cX4_lineUpChildren 8 (Option.some FieldType.int)]
abbrev wX4_isFresh : List Cond := [.code yX4_isFresh cX4_isFresh 3 (Option.some FieldType.boolean)]
abbrev wX4_isFreshAnew : List Cond := [.code yX4_isFreshAnew cX4_isFreshAnew 3 (Option.some FieldType.boolean)]
abbrev wX4_isMadeAsNow : List Cond := [.code yX4_isMadeAsNow cX4_isMadeAsNow 6 (Option.some FieldType.boolean)]
abbrev wX2_fillChain : List Cond := [.code yX2_fillChain cX2_fillChain 5 (Option.some FieldType.int)]
abbrev wX4_fillForefathers : List Cond := [.code yX4_fillForefathers cX4_fillForefathers 4 (Option.some FieldType.int)]
abbrev wX4_followSteps : List Cond := [.code yX4_followSteps cX4_followSteps 7 (Option.some FieldType.int)]
abbrev wX4_latest : List Cond := [.code yX4_latest cX4_latest 2 (Option.some FieldType.int)]
abbrev wX4_top : List Cond := [.code yX4_top cX4_top 2 (Option.some FieldType.int)]
abbrev wX4_bakeAt : List Cond := [.code yX4_bakeAt cX4_bakeAt 3 (Option.some (FieldType.object "ImageBaker$Bake"))]
abbrev wX4_test : List Cond := [.code yX4_test cX4_test 4 (Option.some FieldType.boolean)]
abbrev wX4_hold : List Cond := [.code yX4_hold cX4_hold 3 (Option.some FieldType.int)]
abbrev wX4_countMachinesFrom : List Cond := [.code yX4_countMachinesFrom cX4_countMachinesFrom 7 (Option.some FieldType.int)]
abbrev wX4_raise : List Cond := [.code yX4_raise cX4_raise 3 (Option.some FieldType.int)]
abbrev wX4_copy : List Cond := [.code yX4_copy cX4_copy 4 (Option.some FieldType.int)]
abbrev wX0_arriveAt : List Cond := [.code yX0_arriveAt cX0_arriveAt 3 (none)]
abbrev wX4_setRules : List Cond := [.code yX4_setRules cX4_setRules 5 (none)]
abbrev wX4_pass : List Cond := [.code yX4_pass cX4_pass 7 (Option.some FieldType.int)]
abbrev wX4_mustGo : List Cond := [.code yX4_mustGo cX4_mustGo 2 (Option.some FieldType.boolean)]
abbrev wX4_state : List Cond := [.code yX4_state cX4_state 4 (Option.some FieldType.int)]
abbrev wX4_start : List Cond := [.code yX4_start cX4_start 7 (Option.some FieldType.int)]
abbrev wX3_init : List Cond := [.code yX3_init cX3_init 6 (none)]
abbrev wX4_renew : List Cond := [.code yX4_renew cX4_renew 4 (Option.some FieldType.int)]
abbrev wX4_runningAt : List Cond := [.code yX4_runningAt cX4_runningAt 3 (Option.some (FieldType.object "ImageBaker$Machine"))]
abbrev wX4_machineAt : List Cond := [.code yX4_machineAt cX4_machineAt 3 (Option.some (FieldType.object "ImageBaker$Machine"))]
abbrev wX4_stop : List Cond := [.code yX4_stop cX4_stop 4 (Option.some FieldType.int)]
abbrev wX4_runsFrom : List Cond := [.code yX4_runsFrom cX4_runsFrom 2 (Option.some FieldType.int)]
abbrev wX4_oldAt : List Cond := [.code yX4_oldAt cX4_oldAt 4 (Option.some FieldType.int)]
abbrev wX5_init : List Cond := [.code yX5_init cX5_init 2 (none)]
abbrev wX5_thrown : List Cond := [.code yX5_thrown cX5_thrown 1 (Option.some FieldType.int)]
abbrev wX5_add : List Cond := [.code yX5_add cX5_add 2 (Option.some FieldType.int)]
abbrev wX5_isIn : List Cond := [.code yX5_isIn cX5_isIn 3 (Option.some FieldType.boolean)]
abbrev wX5_isFine : List Cond := [.code yX5_isFine cX5_isFine 2 (Option.some FieldType.boolean)]
abbrev wX5_step : List Cond := [.code yX5_step cX5_step 4 (Option.some FieldType.int)]
abbrev wX5_isImage : List Cond := [.code yX5_isImage cX5_isImage 2 (Option.some FieldType.boolean)]
abbrev wX5_change : List Cond := [.code yX5_change cX5_change 4 (Option.some FieldType.int)]
abbrev wX5_bake : List Cond := [.code yX5_bake cX5_bake 3 (Option.some FieldType.int)]
abbrev wX5_hasBase : List Cond := [.code yX5_hasBase cX5_hasBase 2 (Option.some FieldType.boolean)]
abbrev wX5_isAlike : List Cond := [.code yX5_isAlike cX5_isAlike 2 (Option.some FieldType.boolean)]
abbrev wX5_topNow : List Cond := [.code yX5_topNow cX5_topNow 4 (Option.some FieldType.int)]
abbrev wX5_baseOf : List Cond := [.code yX5_baseOf cX5_baseOf 2 (Option.some FieldType.int)]
abbrev wX5_find : List Cond := [.code yX5_find cX5_find 5 (Option.some FieldType.int)]
abbrev wX5_makes : List Cond := [.code yX5_makes cX5_makes 5 (none)]
abbrev wX5_bakeAll : List Cond := [.code yX5_bakeAll cX5_bakeAll 8 (Option.some FieldType.int)]
abbrev wX5_joins : List Cond := [.code yX5_joins cX5_joins 5 (Option.some FieldType.int)]
abbrev wX5_isFreshNow : List Cond := [.code yX5_isFreshNow cX5_isFreshNow 4 (Option.some FieldType.boolean)]
abbrev wX5_isFresh : List Cond := [.code yX5_isFresh cX5_isFresh 2 (Option.some FieldType.boolean)]
abbrev wX5_isFreshAnew : List Cond := [.code yX5_isFreshAnew cX5_isFreshAnew 2 (Option.some FieldType.boolean)]
abbrev wX5_layers : List Cond := [.code yX5_layers cX5_layers 1 (Option.some FieldType.int)]
abbrev wX5_bakes : List Cond := [.code yX5_bakes cX5_bakes 1 (Option.some FieldType.int)]
abbrev wX5_latest : List Cond := [.code yX5_latest cX5_latest 2 (Option.some FieldType.int)]
abbrev wX5_top : List Cond := [.code yX5_top cX5_top 2 (Option.some FieldType.int)]
abbrev wX5_isBake : List Cond := [.code yX5_isBake cX5_isBake 2 (Option.some FieldType.boolean)]
abbrev wX5_test : List Cond := [.code yX5_test cX5_test 4 (Option.some FieldType.boolean)]
abbrev wX5_hold : List Cond := [.code yX5_hold cX5_hold 3 (Option.some FieldType.int)]
abbrev wX5_running : List Cond := [.code yX5_running cX5_running 4 (Option.some FieldType.int)]
abbrev wX5_raise : List Cond := [.code yX5_raise cX5_raise 3 (Option.some FieldType.int)]
abbrev wX5_copy : List Cond := [.code yX5_copy cX5_copy 5 (Option.some FieldType.int)]
abbrev wX5_setRules : List Cond := [.code yX5_setRules cX5_setRules 6 (none)]
abbrev wX5_pass : List Cond := [.code yX5_pass cX5_pass 5 (Option.some FieldType.int)]
abbrev wX5_state : List Cond := [.code yX5_state cX5_state 2 (Option.some FieldType.int)]
abbrev wX5_isTooOld : List Cond := [.code yX5_isTooOld cX5_isTooOld 2 (Option.some FieldType.boolean)]
abbrev wX5_start : List Cond := [.code yX5_start cX5_start 7 (Option.some FieldType.int)]
abbrev wX5_bakeFor : List Cond := [.code yX5_bakeFor cX5_bakeFor 8 (Option.some FieldType.int)]
abbrev wX5_renew : List Cond := [.code yX5_renew cX5_renew 3 (Option.some FieldType.int)]
abbrev wX5_isRunning : List Cond := [.code yX5_isRunning cX5_isRunning 2 (Option.some FieldType.boolean)]
abbrev wX5_next : List Cond := [.code yX5_next cX5_next 2 (Option.some FieldType.int)]
abbrev wX5_stop : List Cond := [.code yX5_stop cX5_stop 3 (Option.some FieldType.int)]
abbrev wX5_runsFrom : List Cond := [.code yX5_runsFrom cX5_runsFrom 2 (Option.some FieldType.int)]
abbrev wX5_old : List Cond := [.code yX5_old cX5_old 3 (Option.some FieldType.int)]
abbrev wX5_isOld : List Cond := [.code yX5_isOld cX5_isOld 2 (Option.some FieldType.boolean)]
abbrev wX5_oldAt : List Cond := [.code yX5_oldAt cX5_oldAt 5 (Option.some FieldType.int)]
abbrev wX5_isAhead : List Cond := [.code yX5_isAhead cX5_isAhead 5 (Option.some FieldType.boolean)]
theorem kL_7 {rm : Room} {Pre : Heap → Prop} {Qc : Array Value → State → Outcome → State → Prop} {free : Addr → Prop} {As : List Value} {mc ms : Nat} (F : wa_fx p s m c meth args cc nL RL nm ret D cy) (hM : Met l yX4_add wX4_add rm (wa_pc (.ref (ad kd i) :: As) D cy Pre) Qc mc ms free) (hR : wa_rm rm R 4) (hz : rm.cells = mc ∧ rm.slots = ms) (hP : Pre H) (hw : wa_wd D ad C H) (he : C kd i = some (.inr (4, fs))) (hn : As.length = 1) (hst : st0 = As.reverse ++ .ref (ad kd i) :: rest) (hW : (rest.map fun v => v.category).sum ≤ 8) (hls : ls.size = nL) (hdg : decode cc pc = .ok (.invokevirtual 7, 3)) (hf : cells + mc ≤ R.cells ∧ slots + ms ≤ R.slots) : va_Run p l e R s m args below meth c H locs cells slots mc ms (F0 m pc ls st0) rest (Qc (Value.ref (ad kd i) :: As).toArray) free := wa_runV F hM (wa_wV qw_200 qw_201 qw_202 qw_49 qw_203) ⟨by decide, by decide, rfl⟩ hR hz hP (wa_rcv (q := (RX4, TX4, 17)) F.2.1 hw he rfl) hn hst hW hls hdg hf
theorem kL_17 {rm : Room} {Pre : Heap → Prop} {Qc : Array Value → State → Outcome → State → Prop} {free : Addr → Prop} {As : List Value} {mc ms : Nat} (F : wa_fx p s m c meth args cc nL RL nm ret D cy) (hM : Met l yX4_step wX4_step rm (wa_pc (.ref (ad kd i) :: As) D cy Pre) Qc mc ms free) (hR : wa_rm rm R 4) (hz : rm.cells = mc ∧ rm.slots = ms) (hP : Pre H) (hw : wa_wd D ad C H) (he : C kd i = some (.inr (4, fs))) (hn : As.length = 2) (hst : st0 = As.reverse ++ .ref (ad kd i) :: rest) (hW : (rest.map fun v => v.category).sum ≤ 8) (hls : ls.size = nL) (hdg : decode cc pc = .ok (.invokevirtual 17, 3)) (hf : cells + mc ≤ R.cells ∧ slots + ms ≤ R.slots) : va_Run p l e R s m args below meth c H locs cells slots mc ms (F0 m pc ls st0) rest (Qc (Value.ref (ad kd i) :: As).toArray) free := wa_runV F hM (wa_wV qw_324 qw_325 qw_326 qw_49 qw_327) ⟨by decide, by decide, rfl⟩ hR hz hP (wa_rcv (q := (RX4, TX4, 17)) F.2.1 hw he rfl) hn hst hW hls hdg hf
theorem kL_23 {rm : Room} {Pre : Heap → Prop} {Qc : Array Value → State → Outcome → State → Prop} {free : Addr → Prop} {As : List Value} {mc ms : Nat} (F : wa_fx p s m c meth args cc nL RL nm ret D cy) (hM : Met l yX4_change wX4_change rm (wa_pc (.ref (ad kd i) :: As) D cy Pre) Qc mc ms free) (hR : wa_rm rm R 3) (hz : rm.cells = mc ∧ rm.slots = ms) (hP : Pre H) (hw : wa_wd D ad C H) (he : C kd i = some (.inr (4, fs))) (hn : As.length = 2) (hst : st0 = As.reverse ++ .ref (ad kd i) :: rest) (hW : (rest.map fun v => v.category).sum ≤ 8) (hls : ls.size = nL) (hdg : decode cc pc = .ok (.invokevirtual 23, 3)) (hf : cells + mc ≤ R.cells ∧ slots + ms ≤ R.slots) : va_Run p l e R s m args below meth c H locs cells slots mc ms (F0 m pc ls st0) rest (Qc (Value.ref (ad kd i) :: As).toArray) free := wa_runV F hM (wa_wV qw_352 qw_353 qw_354 qw_49 qw_355) ⟨by decide, by decide, rfl⟩ hR hz hP (wa_rcv (q := (RX4, TX4, 17)) F.2.1 hw he rfl) hn hst hW hls hdg hf
theorem kL_26 {rm : Room} {Pre : Heap → Prop} {Qc : Array Value → State → Outcome → State → Prop} {free : Addr → Prop} {As : List Value} {mc ms : Nat} (F : wa_fx p s m c meth args cc nL RL nm ret D cy) (hM : Met l yX4_bake wX4_bake rm (wa_pc (.ref (ad kd i) :: As) D cy Pre) Qc mc ms free) (hR : wa_rm rm R 3) (hz : rm.cells = mc ∧ rm.slots = ms) (hP : Pre H) (hw : wa_wd D ad C H) (he : C kd i = some (.inr (4, fs))) (hn : As.length = 1) (hst : st0 = As.reverse ++ .ref (ad kd i) :: rest) (hW : (rest.map fun v => v.category).sum ≤ 8) (hls : ls.size = nL) (hdg : decode cc pc = .ok (.invokevirtual 26, 3)) (hf : cells + mc ≤ R.cells ∧ slots + ms ≤ R.slots) : va_Run p l e R s m args below meth c H locs cells slots mc ms (F0 m pc ls st0) rest (Qc (Value.ref (ad kd i) :: As).toArray) free := wa_runV F hM (wa_wV qw_360 qw_361 qw_362 qw_49 qw_363) ⟨by decide, by decide, rfl⟩ hR hz hP (wa_rcv (q := (RX4, TX4, 17)) F.2.1 hw he rfl) hn hst hW hls hdg hf
theorem kL_29 {rm : Room} {Pre : Heap → Prop} {Qc : Array Value → State → Outcome → State → Prop} {free : Addr → Prop} {As : List Value} {mc ms : Nat} (F : wa_fx p s m c meth args cc nL RL nm ret D cy) (hM : Met l yX4_bakeAll wX4_bakeAll rm (wa_pc (.ref (ad kd i) :: As) D cy Pre) Qc mc ms free) (hR : wa_rm rm R 6) (hz : rm.cells = mc ∧ rm.slots = ms) (hP : Pre H) (hw : wa_wd D ad C H) (he : C kd i = some (.inr (4, fs))) (hn : As.length = 0) (hst : st0 = As.reverse ++ .ref (ad kd i) :: rest) (hW : (rest.map fun v => v.category).sum ≤ 8) (hls : ls.size = nL) (hdg : decode cc pc = .ok (.invokevirtual 29, 3)) (hf : cells + mc ≤ R.cells ∧ slots + ms ≤ R.slots) : va_Run p l e R s m args below meth c H locs cells slots mc ms (F0 m pc ls st0) rest (Qc (Value.ref (ad kd i) :: As).toArray) free := wa_runV F hM (wa_wV qw_442 qw_443 qw_444 qw_49 qw_445) ⟨by decide, by decide, rfl⟩ hR hz hP (wa_rcv (q := (RX4, TX4, 17)) F.2.1 hw he rfl) hn hst hW hls hdg hf
theorem kL_33 {rm : Room} {Pre : Heap → Prop} {Qc : Array Value → State → Outcome → State → Prop} {free : Addr → Prop} {As : List Value} {mc ms : Nat} (F : wa_fx p s m c meth args cc nL RL nm ret D cy) (hM : Met l yX4_isFresh wX4_isFresh rm (wa_pc (.ref (ad kd i) :: As) D cy Pre) Qc mc ms free) (hR : wa_rm rm R 3) (hz : rm.cells = mc ∧ rm.slots = ms) (hP : Pre H) (hw : wa_wd D ad C H) (he : C kd i = some (.inr (4, fs))) (hn : As.length = 1) (hst : st0 = As.reverse ++ .ref (ad kd i) :: rest) (hW : (rest.map fun v => v.category).sum ≤ 8) (hls : ls.size = nL) (hdg : decode cc pc = .ok (.invokevirtual 33, 3)) (hf : cells + mc ≤ R.cells ∧ slots + ms ≤ R.slots) : va_Run p l e R s m args below meth c H locs cells slots mc ms (F0 m pc ls st0) rest (Qc (Value.ref (ad kd i) :: As).toArray) free := wa_runV F hM (wa_wV qw_462 qw_463 qw_464 qw_49 qw_465) ⟨by decide, by decide, rfl⟩ hR hz hP (wa_rcv (q := (RX4, TX4, 17)) F.2.1 hw he rfl) hn hst hW hls hdg hf
theorem kL_37 {rm : Room} {Pre : Heap → Prop} {Qc : Array Value → State → Outcome → State → Prop} {free : Addr → Prop} {As : List Value} {mc ms : Nat} (F : wa_fx p s m c meth args cc nL RL nm ret D cy) (hM : Met l yX4_isFreshAnew wX4_isFreshAnew rm (wa_pc (.ref (ad kd i) :: As) D cy Pre) Qc mc ms free) (hR : wa_rm rm R 3) (hz : rm.cells = mc ∧ rm.slots = ms) (hP : Pre H) (hw : wa_wd D ad C H) (he : C kd i = some (.inr (4, fs))) (hn : As.length = 1) (hst : st0 = As.reverse ++ .ref (ad kd i) :: rest) (hW : (rest.map fun v => v.category).sum ≤ 8) (hls : ls.size = nL) (hdg : decode cc pc = .ok (.invokevirtual 37, 3)) (hf : cells + mc ≤ R.cells ∧ slots + ms ≤ R.slots) : va_Run p l e R s m args below meth c H locs cells slots mc ms (F0 m pc ls st0) rest (Qc (Value.ref (ad kd i) :: As).toArray) free := wa_runV F hM (wa_wV qw_469 qw_470 qw_471 qw_49 qw_472) ⟨by decide, by decide, rfl⟩ hR hz hP (wa_rcv (q := (RX4, TX4, 17)) F.2.1 hw he rfl) hn hst hW hls hdg hf
theorem kL_40 {rm : Room} {Pre : Heap → Prop} {Qc : Array Value → State → Outcome → State → Prop} {free : Addr → Prop} {As : List Value} {mc ms : Nat} (F : wa_fx p s m c meth args cc nL RL nm ret D cy) (hM : Met l yX4_latest wX4_latest rm (wa_pc (.ref (ad kd i) :: As) D cy Pre) Qc mc ms free) (hR : wa_rm rm R 2) (hz : rm.cells = mc ∧ rm.slots = ms) (hP : Pre H) (hw : wa_wd D ad C H) (he : C kd i = some (.inr (4, fs))) (hn : As.length = 1) (hst : st0 = As.reverse ++ .ref (ad kd i) :: rest) (hW : (rest.map fun v => v.category).sum ≤ 8) (hls : ls.size = nL) (hdg : decode cc pc = .ok (.invokevirtual 40, 3)) (hf : cells + mc ≤ R.cells ∧ slots + ms ≤ R.slots) : va_Run p l e R s m args below meth c H locs cells slots mc ms (F0 m pc ls st0) rest (Qc (Value.ref (ad kd i) :: As).toArray) free := wa_runV F hM (wa_wV qw_493 qw_494 qw_495 qw_49 qw_496) ⟨by decide, by decide, rfl⟩ hR hz hP (wa_rcv (q := (RX4, TX4, 17)) F.2.1 hw he rfl) hn hst hW hls hdg hf
theorem kL_43 {rm : Room} {Pre : Heap → Prop} {Qc : Array Value → State → Outcome → State → Prop} {free : Addr → Prop} {As : List Value} {mc ms : Nat} (F : wa_fx p s m c meth args cc nL RL nm ret D cy) (hM : Met l yX4_top wX4_top rm (wa_pc (.ref (ad kd i) :: As) D cy Pre) Qc mc ms free) (hR : wa_rm rm R 2) (hz : rm.cells = mc ∧ rm.slots = ms) (hP : Pre H) (hw : wa_wd D ad C H) (he : C kd i = some (.inr (4, fs))) (hn : As.length = 1) (hst : st0 = As.reverse ++ .ref (ad kd i) :: rest) (hW : (rest.map fun v => v.category).sum ≤ 8) (hls : ls.size = nL) (hdg : decode cc pc = .ok (.invokevirtual 43, 3)) (hf : cells + mc ≤ R.cells ∧ slots + ms ≤ R.slots) : va_Run p l e R s m args below meth c H locs cells slots mc ms (F0 m pc ls st0) rest (Qc (Value.ref (ad kd i) :: As).toArray) free := wa_runV F hM (wa_wV qw_500 qw_501 qw_502 qw_49 qw_503) ⟨by decide, by decide, rfl⟩ hR hz hP (wa_rcv (q := (RX4, TX4, 17)) F.2.1 hw he rfl) hn hst hW hls hdg hf
theorem kL_46 {rm : Room} {Pre : Heap → Prop} {Qc : Array Value → State → Outcome → State → Prop} {free : Addr → Prop} {As : List Value} {mc ms : Nat} (F : wa_fx p s m c meth args cc nL RL nm ret D cy) (hM : Met l yX4_test wX4_test rm (wa_pc (.ref (ad kd i) :: As) D cy Pre) Qc mc ms free) (hR : wa_rm rm R 4) (hz : rm.cells = mc ∧ rm.slots = ms) (hP : Pre H) (hw : wa_wd D ad C H) (he : C kd i = some (.inr (4, fs))) (hn : As.length = 2) (hst : st0 = As.reverse ++ .ref (ad kd i) :: rest) (hW : (rest.map fun v => v.category).sum ≤ 8) (hls : ls.size = nL) (hdg : decode cc pc = .ok (.invokevirtual 46, 3)) (hf : cells + mc ≤ R.cells ∧ slots + ms ≤ R.slots) : va_Run p l e R s m args below meth c H locs cells slots mc ms (F0 m pc ls st0) rest (Qc (Value.ref (ad kd i) :: As).toArray) free := wa_runV F hM (wa_wV qw_512 qw_513 qw_514 qw_49 qw_515) ⟨by decide, by decide, rfl⟩ hR hz hP (wa_rcv (q := (RX4, TX4, 17)) F.2.1 hw he rfl) hn hst hW hls hdg hf
theorem kL_50 {rm : Room} {Pre : Heap → Prop} {Qc : Array Value → State → Outcome → State → Prop} {free : Addr → Prop} {As : List Value} {mc ms : Nat} (F : wa_fx p s m c meth args cc nL RL nm ret D cy) (hM : Met l yX4_hold wX4_hold rm (wa_pc (.ref (ad kd i) :: As) D cy Pre) Qc mc ms free) (hR : wa_rm rm R 3) (hz : rm.cells = mc ∧ rm.slots = ms) (hP : Pre H) (hw : wa_wd D ad C H) (he : C kd i = some (.inr (4, fs))) (hn : As.length = 1) (hst : st0 = As.reverse ++ .ref (ad kd i) :: rest) (hW : (rest.map fun v => v.category).sum ≤ 8) (hls : ls.size = nL) (hdg : decode cc pc = .ok (.invokevirtual 50, 3)) (hf : cells + mc ≤ R.cells ∧ slots + ms ≤ R.slots) : va_Run p l e R s m args below meth c H locs cells slots mc ms (F0 m pc ls st0) rest (Qc (Value.ref (ad kd i) :: As).toArray) free := wa_runV F hM (wa_wV qw_520 qw_521 qw_522 qw_49 qw_523) ⟨by decide, by decide, rfl⟩ hR hz hP (wa_rcv (q := (RX4, TX4, 17)) F.2.1 hw he rfl) hn hst hW hls hdg hf
theorem kL_53 {rm : Room} {Pre : Heap → Prop} {Qc : Array Value → State → Outcome → State → Prop} {free : Addr → Prop} {As : List Value} {mc ms : Nat} (F : wa_fx p s m c meth args cc nL RL nm ret D cy) (hM : Met l yX4_raise wX4_raise rm (wa_pc (.ref (ad kd i) :: As) D cy Pre) Qc mc ms free) (hR : wa_rm rm R 3) (hz : rm.cells = mc ∧ rm.slots = ms) (hP : Pre H) (hw : wa_wd D ad C H) (he : C kd i = some (.inr (4, fs))) (hn : As.length = 1) (hst : st0 = As.reverse ++ .ref (ad kd i) :: rest) (hW : (rest.map fun v => v.category).sum ≤ 8) (hls : ls.size = nL) (hdg : decode cc pc = .ok (.invokevirtual 53, 3)) (hf : cells + mc ≤ R.cells ∧ slots + ms ≤ R.slots) : va_Run p l e R s m args below meth c H locs cells slots mc ms (F0 m pc ls st0) rest (Qc (Value.ref (ad kd i) :: As).toArray) free := wa_runV F hM (wa_wV qw_532 qw_533 qw_534 qw_49 qw_535) ⟨by decide, by decide, rfl⟩ hR hz hP (wa_rcv (q := (RX4, TX4, 17)) F.2.1 hw he rfl) hn hst hW hls hdg hf
theorem kL_56 {rm : Room} {Pre : Heap → Prop} {Qc : Array Value → State → Outcome → State → Prop} {free : Addr → Prop} {As : List Value} {mc ms : Nat} (F : wa_fx p s m c meth args cc nL RL nm ret D cy) (hM : Met l yX4_copy wX4_copy rm (wa_pc (.ref (ad kd i) :: As) D cy Pre) Qc mc ms free) (hR : wa_rm rm R 4) (hz : rm.cells = mc ∧ rm.slots = ms) (hP : Pre H) (hw : wa_wd D ad C H) (he : C kd i = some (.inr (4, fs))) (hn : As.length = 2) (hst : st0 = As.reverse ++ .ref (ad kd i) :: rest) (hW : (rest.map fun v => v.category).sum ≤ 8) (hls : ls.size = nL) (hdg : decode cc pc = .ok (.invokevirtual 56, 3)) (hf : cells + mc ≤ R.cells ∧ slots + ms ≤ R.slots) : va_Run p l e R s m args below meth c H locs cells slots mc ms (F0 m pc ls st0) rest (Qc (Value.ref (ad kd i) :: As).toArray) free := wa_runV F hM (wa_wV qw_540 qw_541 qw_542 qw_49 qw_543) ⟨by decide, by decide, rfl⟩ hR hz hP (wa_rcv (q := (RX4, TX4, 17)) F.2.1 hw he rfl) hn hst hW hls hdg hf
theorem kL_59 {rm : Room} {Pre : Heap → Prop} {Qc : Array Value → State → Outcome → State → Prop} {free : Addr → Prop} {As : List Value} {mc ms : Nat} (F : wa_fx p s m c meth args cc nL RL nm ret D cy) (hM : Met l yX4_setRules wX4_setRules rm (wa_pc (.ref (ad kd i) :: As) D cy Pre) Qc mc ms free) (hR : wa_rm rm R 5) (hz : rm.cells = mc ∧ rm.slots = ms) (hP : Pre H) (hw : wa_wd D ad C H) (he : C kd i = some (.inr (4, fs))) (hn : As.length = 4) (hst : st0 = As.reverse ++ .ref (ad kd i) :: rest) (hW : (rest.map fun v => v.category).sum ≤ 8) (hls : ls.size = nL) (hdg : decode cc pc = .ok (.invokevirtual 59, 3)) (hf : cells + mc ≤ R.cells ∧ slots + ms ≤ R.slots) : va_Run p l e R s m args below meth c H locs cells slots mc ms (F0 m pc ls st0) rest (Qc (Value.ref (ad kd i) :: As).toArray) free := wa_runV F hM (wa_wV qw_553 qw_554 qw_555 qw_49 qw_556) ⟨by decide, by decide, rfl⟩ hR hz hP (wa_rcv (q := (RX4, TX4, 17)) F.2.1 hw he rfl) hn hst hW hls hdg hf
theorem kL_63 {rm : Room} {Pre : Heap → Prop} {Qc : Array Value → State → Outcome → State → Prop} {free : Addr → Prop} {As : List Value} {mc ms : Nat} (F : wa_fx p s m c meth args cc nL RL nm ret D cy) (hM : Met l yX4_pass wX4_pass rm (wa_pc (.ref (ad kd i) :: As) D cy Pre) Qc mc ms free) (hR : wa_rm rm R 7) (hz : rm.cells = mc ∧ rm.slots = ms) (hP : Pre H) (hw : wa_wd D ad C H) (he : C kd i = some (.inr (4, fs))) (hn : As.length = 1) (hst : st0 = As.reverse ++ .ref (ad kd i) :: rest) (hW : (rest.map fun v => v.category).sum ≤ 8) (hls : ls.size = nL) (hdg : decode cc pc = .ok (.invokevirtual 63, 3)) (hf : cells + mc ≤ R.cells ∧ slots + ms ≤ R.slots) : va_Run p l e R s m args below meth c H locs cells slots mc ms (F0 m pc ls st0) rest (Qc (Value.ref (ad kd i) :: As).toArray) free := wa_runV F hM (wa_wV qw_562 qw_563 qw_564 qw_49 qw_565) ⟨by decide, by decide, rfl⟩ hR hz hP (wa_rcv (q := (RX4, TX4, 17)) F.2.1 hw he rfl) hn hst hW hls hdg hf
theorem kL_66 {rm : Room} {Pre : Heap → Prop} {Qc : Array Value → State → Outcome → State → Prop} {free : Addr → Prop} {As : List Value} {mc ms : Nat} (F : wa_fx p s m c meth args cc nL RL nm ret D cy) (hM : Met l yX4_state wX4_state rm (wa_pc (.ref (ad kd i) :: As) D cy Pre) Qc mc ms free) (hR : wa_rm rm R 4) (hz : rm.cells = mc ∧ rm.slots = ms) (hP : Pre H) (hw : wa_wd D ad C H) (he : C kd i = some (.inr (4, fs))) (hn : As.length = 1) (hst : st0 = As.reverse ++ .ref (ad kd i) :: rest) (hW : (rest.map fun v => v.category).sum ≤ 8) (hls : ls.size = nL) (hdg : decode cc pc = .ok (.invokevirtual 66, 3)) (hf : cells + mc ≤ R.cells ∧ slots + ms ≤ R.slots) : va_Run p l e R s m args below meth c H locs cells slots mc ms (F0 m pc ls st0) rest (Qc (Value.ref (ad kd i) :: As).toArray) free := wa_runV F hM (wa_wV qw_574 qw_575 qw_576 qw_49 qw_577) ⟨by decide, by decide, rfl⟩ hR hz hP (wa_rcv (q := (RX4, TX4, 17)) F.2.1 hw he rfl) hn hst hW hls hdg hf
theorem kL_69 {rm : Room} {Pre : Heap → Prop} {Qc : Array Value → State → Outcome → State → Prop} {free : Addr → Prop} {As : List Value} {mc ms : Nat} (F : wa_fx p s m c meth args cc nL RL nm ret D cy) (hM : Met l yX4_start wX4_start rm (wa_pc (.ref (ad kd i) :: As) D cy Pre) Qc mc ms free) (hR : wa_rm rm R 7) (hz : rm.cells = mc ∧ rm.slots = ms) (hP : Pre H) (hw : wa_wd D ad C H) (he : C kd i = some (.inr (4, fs))) (hn : As.length = 3) (hst : st0 = As.reverse ++ .ref (ad kd i) :: rest) (hW : (rest.map fun v => v.category).sum ≤ 8) (hls : ls.size = nL) (hdg : decode cc pc = .ok (.invokevirtual 69, 3)) (hf : cells + mc ≤ R.cells ∧ slots + ms ≤ R.slots) : va_Run p l e R s m args below meth c H locs cells slots mc ms (F0 m pc ls st0) rest (Qc (Value.ref (ad kd i) :: As).toArray) free := wa_runV F hM (wa_wV qw_581 qw_582 qw_583 qw_49 qw_584) ⟨by decide, by decide, rfl⟩ hR hz hP (wa_rcv (q := (RX4, TX4, 17)) F.2.1 hw he rfl) hn hst hW hls hdg hf
theorem kL_73 {rm : Room} {Pre : Heap → Prop} {Qc : Array Value → State → Outcome → State → Prop} {free : Addr → Prop} {As : List Value} {mc ms : Nat} (F : wa_fx p s m c meth args cc nL RL nm ret D cy) (hM : Met l yX4_renew wX4_renew rm (wa_pc (.ref (ad kd i) :: As) D cy Pre) Qc mc ms free) (hR : wa_rm rm R 4) (hz : rm.cells = mc ∧ rm.slots = ms) (hP : Pre H) (hw : wa_wd D ad C H) (he : C kd i = some (.inr (4, fs))) (hn : As.length = 1) (hst : st0 = As.reverse ++ .ref (ad kd i) :: rest) (hW : (rest.map fun v => v.category).sum ≤ 8) (hls : ls.size = nL) (hdg : decode cc pc = .ok (.invokevirtual 73, 3)) (hf : cells + mc ≤ R.cells ∧ slots + ms ≤ R.slots) : va_Run p l e R s m args below meth c H locs cells slots mc ms (F0 m pc ls st0) rest (Qc (Value.ref (ad kd i) :: As).toArray) free := wa_runV F hM (wa_wV qw_616 qw_617 qw_618 qw_49 qw_619) ⟨by decide, by decide, rfl⟩ hR hz hP (wa_rcv (q := (RX4, TX4, 17)) F.2.1 hw he rfl) hn hst hW hls hdg hf
theorem kL_76 {rm : Room} {Pre : Heap → Prop} {Qc : Array Value → State → Outcome → State → Prop} {free : Addr → Prop} {As : List Value} {mc ms : Nat} (F : wa_fx p s m c meth args cc nL RL nm ret D cy) (hM : Met l yX4_stop wX4_stop rm (wa_pc (.ref (ad kd i) :: As) D cy Pre) Qc mc ms free) (hR : wa_rm rm R 4) (hz : rm.cells = mc ∧ rm.slots = ms) (hP : Pre H) (hw : wa_wd D ad C H) (he : C kd i = some (.inr (4, fs))) (hn : As.length = 1) (hst : st0 = As.reverse ++ .ref (ad kd i) :: rest) (hW : (rest.map fun v => v.category).sum ≤ 8) (hls : ls.size = nL) (hdg : decode cc pc = .ok (.invokevirtual 76, 3)) (hf : cells + mc ≤ R.cells ∧ slots + ms ≤ R.slots) : va_Run p l e R s m args below meth c H locs cells slots mc ms (F0 m pc ls st0) rest (Qc (Value.ref (ad kd i) :: As).toArray) free := wa_runV F hM (wa_wV qw_634 qw_635 qw_636 qw_49 qw_637) ⟨by decide, by decide, rfl⟩ hR hz hP (wa_rcv (q := (RX4, TX4, 17)) F.2.1 hw he rfl) hn hst hW hls hdg hf
theorem kL_79 {rm : Room} {Pre : Heap → Prop} {Qc : Array Value → State → Outcome → State → Prop} {free : Addr → Prop} {As : List Value} {mc ms : Nat} (F : wa_fx p s m c meth args cc nL RL nm ret D cy) (hM : Met l yX4_runsFrom wX4_runsFrom rm (wa_pc (.ref (ad kd i) :: As) D cy Pre) Qc mc ms free) (hR : wa_rm rm R 2) (hz : rm.cells = mc ∧ rm.slots = ms) (hP : Pre H) (hw : wa_wd D ad C H) (he : C kd i = some (.inr (4, fs))) (hn : As.length = 1) (hst : st0 = As.reverse ++ .ref (ad kd i) :: rest) (hW : (rest.map fun v => v.category).sum ≤ 8) (hls : ls.size = nL) (hdg : decode cc pc = .ok (.invokevirtual 79, 3)) (hf : cells + mc ≤ R.cells ∧ slots + ms ≤ R.slots) : va_Run p l e R s m args below meth c H locs cells slots mc ms (F0 m pc ls st0) rest (Qc (Value.ref (ad kd i) :: As).toArray) free := wa_runV F hM (wa_wV qw_641 qw_642 qw_643 qw_49 qw_644) ⟨by decide, by decide, rfl⟩ hR hz hP (wa_rcv (q := (RX4, TX4, 17)) F.2.1 hw he rfl) hn hst hW hls hdg hf
theorem kL_82 {rm : Room} {Pre : Heap → Prop} {Qc : Array Value → State → Outcome → State → Prop} {free : Addr → Prop} {As : List Value} {mc ms : Nat} (F : wa_fx p s m c meth args cc nL RL nm ret D cy) (hM : Met l yX4_oldAt wX4_oldAt rm (wa_pc (.ref (ad kd i) :: As) D cy Pre) Qc mc ms free) (hR : wa_rm rm R 4) (hz : rm.cells = mc ∧ rm.slots = ms) (hP : Pre H) (hw : wa_wd D ad C H) (he : C kd i = some (.inr (4, fs))) (hn : As.length = 1) (hst : st0 = As.reverse ++ .ref (ad kd i) :: rest) (hW : (rest.map fun v => v.category).sum ≤ 8) (hls : ls.size = nL) (hdg : decode cc pc = .ok (.invokevirtual 82, 3)) (hf : cells + mc ≤ R.cells ∧ slots + ms ≤ R.slots) : va_Run p l e R s m args below meth c H locs cells slots mc ms (F0 m pc ls st0) rest (Qc (Value.ref (ad kd i) :: As).toArray) free := wa_runV F hM (wa_wV qw_648 qw_649 qw_650 qw_49 qw_651) ⟨by decide, by decide, rfl⟩ hR hz hP (wa_rcv (q := (RX4, TX4, 17)) F.2.1 hw he rfl) hn hst hW hls hdg hf
theorem kL_94 {rm : Room} {Pre : Heap → Prop} {Qc : Array Value → State → Outcome → State → Prop} {free : Addr → Prop} {As : List Value} {mc ms : Nat} (F : wa_fx p s m c meth args cc nL RL nm ret D cy) (hM : Met l yX5_add wX5_add rm (wa_pc (.ref (ad kd i) :: As) D cy Pre) Qc mc ms free) (hR : wa_rm rm R 2) (hz : rm.cells = mc ∧ rm.slots = ms) (hP : Pre H) (hw : wa_wd D ad C H) (he : C kd i = some (.inr (5, fs))) (hn : As.length = 1) (hst : st0 = As.reverse ++ .ref (ad kd i) :: rest) (hW : (rest.map fun v => v.category).sum ≤ 8) (hls : ls.size = nL) (hdg : decode cc pc = .ok (.invokevirtual 94, 3)) (hf : cells + mc ≤ R.cells ∧ slots + ms ≤ R.slots) : va_Run p l e R s m args below meth c H locs cells slots mc ms (F0 m pc ls st0) rest (Qc (Value.ref (ad kd i) :: As).toArray) free := wa_runV F hM (wa_wV qw_761 qw_762 qw_763 qw_51 qw_764) ⟨by decide, by decide, rfl⟩ hR hz hP (wa_rcv (q := (RX5, TX5, 32)) F.2.1 hw he rfl) hn hst hW hls hdg hf
theorem kL_95 {rm : Room} {Pre : Heap → Prop} {Qc : Array Value → State → Outcome → State → Prop} {free : Addr → Prop} {As : List Value} {mc ms : Nat} (F : wa_fx p s m c meth args cc nL RL nm ret D cy) (hM : Met l yX5_thrown wX5_thrown rm (wa_pc (.ref (ad kd i) :: As) D cy Pre) Qc mc ms free) (hR : wa_rm rm R 1) (hz : rm.cells = mc ∧ rm.slots = ms) (hP : Pre H) (hw : wa_wd D ad C H) (he : C kd i = some (.inr (5, fs))) (hn : As.length = 0) (hst : st0 = As.reverse ++ .ref (ad kd i) :: rest) (hW : (rest.map fun v => v.category).sum ≤ 8) (hls : ls.size = nL) (hdg : decode cc pc = .ok (.invokevirtual 95, 3)) (hf : cells + mc ≤ R.cells ∧ slots + ms ≤ R.slots) : va_Run p l e R s m args below meth c H locs cells slots mc ms (F0 m pc ls st0) rest (Qc (Value.ref (ad kd i) :: As).toArray) free := wa_runV F hM (wa_wV qw_757 qw_758 qw_759 qw_51 qw_760) ⟨by decide, by decide, rfl⟩ hR hz hP (wa_rcv (q := (RX5, TX5, 32)) F.2.1 hw he rfl) hn hst hW hls hdg hf
theorem kL_101 {rm : Room} {Pre : Heap → Prop} {Qc : Array Value → State → Outcome → State → Prop} {free : Addr → Prop} {As : List Value} {mc ms : Nat} (F : wa_fx p s m c meth args cc nL RL nm ret D cy) (hM : Met l yX5_step wX5_step rm (wa_pc (.ref (ad kd i) :: As) D cy Pre) Qc mc ms free) (hR : wa_rm rm R 4) (hz : rm.cells = mc ∧ rm.slots = ms) (hP : Pre H) (hw : wa_wd D ad C H) (he : C kd i = some (.inr (5, fs))) (hn : As.length = 2) (hst : st0 = As.reverse ++ .ref (ad kd i) :: rest) (hW : (rest.map fun v => v.category).sum ≤ 8) (hls : ls.size = nL) (hdg : decode cc pc = .ok (.invokevirtual 101, 3)) (hf : cells + mc ≤ R.cells ∧ slots + ms ≤ R.slots) : va_Run p l e R s m args below meth c H locs cells slots mc ms (F0 m pc ls st0) rest (Qc (Value.ref (ad kd i) :: As).toArray) free := wa_runV F hM (wa_wV qw_772 qw_773 qw_774 qw_51 qw_775) ⟨by decide, by decide, rfl⟩ hR hz hP (wa_rcv (q := (RX5, TX5, 32)) F.2.1 hw he rfl) hn hst hW hls hdg hf
theorem kL_104 {rm : Room} {Pre : Heap → Prop} {Qc : Array Value → State → Outcome → State → Prop} {free : Addr → Prop} {As : List Value} {mc ms : Nat} (F : wa_fx p s m c meth args cc nL RL nm ret D cy) (hM : Met l yX5_change wX5_change rm (wa_pc (.ref (ad kd i) :: As) D cy Pre) Qc mc ms free) (hR : wa_rm rm R 4) (hz : rm.cells = mc ∧ rm.slots = ms) (hP : Pre H) (hw : wa_wd D ad C H) (he : C kd i = some (.inr (5, fs))) (hn : As.length = 2) (hst : st0 = As.reverse ++ .ref (ad kd i) :: rest) (hW : (rest.map fun v => v.category).sum ≤ 8) (hls : ls.size = nL) (hdg : decode cc pc = .ok (.invokevirtual 104, 3)) (hf : cells + mc ≤ R.cells ∧ slots + ms ≤ R.slots) : va_Run p l e R s m args below meth c H locs cells slots mc ms (F0 m pc ls st0) rest (Qc (Value.ref (ad kd i) :: As).toArray) free := wa_runV F hM (wa_wV qw_780 qw_781 qw_782 qw_51 qw_783) ⟨by decide, by decide, rfl⟩ hR hz hP (wa_rcv (q := (RX5, TX5, 32)) F.2.1 hw he rfl) hn hst hW hls hdg hf
theorem kL_107 {rm : Room} {Pre : Heap → Prop} {Qc : Array Value → State → Outcome → State → Prop} {free : Addr → Prop} {As : List Value} {mc ms : Nat} (F : wa_fx p s m c meth args cc nL RL nm ret D cy) (hM : Met l yX5_bake wX5_bake rm (wa_pc (.ref (ad kd i) :: As) D cy Pre) Qc mc ms free) (hR : wa_rm rm R 3) (hz : rm.cells = mc ∧ rm.slots = ms) (hP : Pre H) (hw : wa_wd D ad C H) (he : C kd i = some (.inr (5, fs))) (hn : As.length = 1) (hst : st0 = As.reverse ++ .ref (ad kd i) :: rest) (hW : (rest.map fun v => v.category).sum ≤ 8) (hls : ls.size = nL) (hdg : decode cc pc = .ok (.invokevirtual 107, 3)) (hf : cells + mc ≤ R.cells ∧ slots + ms ≤ R.slots) : va_Run p l e R s m args below meth c H locs cells slots mc ms (F0 m pc ls st0) rest (Qc (Value.ref (ad kd i) :: As).toArray) free := wa_runV F hM (wa_wV qw_784 qw_785 qw_786 qw_51 qw_787) ⟨by decide, by decide, rfl⟩ hR hz hP (wa_rcv (q := (RX5, TX5, 32)) F.2.1 hw he rfl) hn hst hW hls hdg hf
theorem kL_111 {rm : Room} {Pre : Heap → Prop} {Qc : Array Value → State → Outcome → State → Prop} {free : Addr → Prop} {As : List Value} {mc ms : Nat} (F : wa_fx p s m c meth args cc nL RL nm ret D cy) (hM : Met l yX5_bakeAll wX5_bakeAll rm (wa_pc (.ref (ad kd i) :: As) D cy Pre) Qc mc ms free) (hR : wa_rm rm R 8) (hz : rm.cells = mc ∧ rm.slots = ms) (hP : Pre H) (hw : wa_wd D ad C H) (he : C kd i = some (.inr (5, fs))) (hn : As.length = 0) (hst : st0 = As.reverse ++ .ref (ad kd i) :: rest) (hW : (rest.map fun v => v.category).sum ≤ 8) (hls : ls.size = nL) (hdg : decode cc pc = .ok (.invokevirtual 111, 3)) (hf : cells + mc ≤ R.cells ∧ slots + ms ≤ R.slots) : va_Run p l e R s m args below meth c H locs cells slots mc ms (F0 m pc ls st0) rest (Qc (Value.ref (ad kd i) :: As).toArray) free := wa_runV F hM (wa_wV qw_812 qw_813 qw_814 qw_51 qw_815) ⟨by decide, by decide, rfl⟩ hR hz hP (wa_rcv (q := (RX5, TX5, 32)) F.2.1 hw he rfl) hn hst hW hls hdg hf
theorem kL_114 {rm : Room} {Pre : Heap → Prop} {Qc : Array Value → State → Outcome → State → Prop} {free : Addr → Prop} {As : List Value} {mc ms : Nat} (F : wa_fx p s m c meth args cc nL RL nm ret D cy) (hM : Met l yX5_isFresh wX5_isFresh rm (wa_pc (.ref (ad kd i) :: As) D cy Pre) Qc mc ms free) (hR : wa_rm rm R 2) (hz : rm.cells = mc ∧ rm.slots = ms) (hP : Pre H) (hw : wa_wd D ad C H) (he : C kd i = some (.inr (5, fs))) (hn : As.length = 1) (hst : st0 = As.reverse ++ .ref (ad kd i) :: rest) (hW : (rest.map fun v => v.category).sum ≤ 8) (hls : ls.size = nL) (hdg : decode cc pc = .ok (.invokevirtual 114, 3)) (hf : cells + mc ≤ R.cells ∧ slots + ms ≤ R.slots) : va_Run p l e R s m args below meth c H locs cells slots mc ms (F0 m pc ls st0) rest (Qc (Value.ref (ad kd i) :: As).toArray) free := wa_runV F hM (wa_wV qw_824 qw_825 qw_826 qw_51 qw_827) ⟨by decide, by decide, rfl⟩ hR hz hP (wa_rcv (q := (RX5, TX5, 32)) F.2.1 hw he rfl) hn hst hW hls hdg hf
theorem kL_117 {rm : Room} {Pre : Heap → Prop} {Qc : Array Value → State → Outcome → State → Prop} {free : Addr → Prop} {As : List Value} {mc ms : Nat} (F : wa_fx p s m c meth args cc nL RL nm ret D cy) (hM : Met l yX5_isFreshAnew wX5_isFreshAnew rm (wa_pc (.ref (ad kd i) :: As) D cy Pre) Qc mc ms free) (hR : wa_rm rm R 2) (hz : rm.cells = mc ∧ rm.slots = ms) (hP : Pre H) (hw : wa_wd D ad C H) (he : C kd i = some (.inr (5, fs))) (hn : As.length = 1) (hst : st0 = As.reverse ++ .ref (ad kd i) :: rest) (hW : (rest.map fun v => v.category).sum ≤ 8) (hls : ls.size = nL) (hdg : decode cc pc = .ok (.invokevirtual 117, 3)) (hf : cells + mc ≤ R.cells ∧ slots + ms ≤ R.slots) : va_Run p l e R s m args below meth c H locs cells slots mc ms (F0 m pc ls st0) rest (Qc (Value.ref (ad kd i) :: As).toArray) free := wa_runV F hM (wa_wV qw_828 qw_829 qw_830 qw_51 qw_831) ⟨by decide, by decide, rfl⟩ hR hz hP (wa_rcv (q := (RX5, TX5, 32)) F.2.1 hw he rfl) hn hst hW hls hdg hf
theorem kL_118 {rm : Room} {Pre : Heap → Prop} {Qc : Array Value → State → Outcome → State → Prop} {free : Addr → Prop} {As : List Value} {mc ms : Nat} (F : wa_fx p s m c meth args cc nL RL nm ret D cy) (hM : Met l yX4_layers wX4_layers rm (wa_pc (.ref (ad kd i) :: As) D cy Pre) Qc mc ms free) (hR : wa_rm rm R 1) (hz : rm.cells = mc ∧ rm.slots = ms) (hP : Pre H) (hw : wa_wd D ad C H) (he : C kd i = some (.inr (4, fs))) (hn : As.length = 0) (hst : st0 = As.reverse ++ .ref (ad kd i) :: rest) (hW : (rest.map fun v => v.category).sum ≤ 8) (hls : ls.size = nL) (hdg : decode cc pc = .ok (.invokevirtual 118, 3)) (hf : cells + mc ≤ R.cells ∧ slots + ms ≤ R.slots) : va_Run p l e R s m args below meth c H locs cells slots mc ms (F0 m pc ls st0) rest (Qc (Value.ref (ad kd i) :: As).toArray) free := wa_runV F hM (wa_wV qw_148 qw_149 qw_150 qw_49 qw_151) ⟨by decide, by decide, rfl⟩ hR hz hP (wa_rcv (q := (RX4, TX4, 17)) F.2.1 hw he rfl) hn hst hW hls hdg hf
theorem kL_121 {rm : Room} {Pre : Heap → Prop} {Qc : Array Value → State → Outcome → State → Prop} {free : Addr → Prop} {As : List Value} {mc ms : Nat} (F : wa_fx p s m c meth args cc nL RL nm ret D cy) (hM : Met l yX5_layers wX5_layers rm (wa_pc (.ref (ad kd i) :: As) D cy Pre) Qc mc ms free) (hR : wa_rm rm R 1) (hz : rm.cells = mc ∧ rm.slots = ms) (hP : Pre H) (hw : wa_wd D ad C H) (he : C kd i = some (.inr (5, fs))) (hn : As.length = 0) (hst : st0 = As.reverse ++ .ref (ad kd i) :: rest) (hW : (rest.map fun v => v.category).sum ≤ 8) (hls : ls.size = nL) (hdg : decode cc pc = .ok (.invokevirtual 121, 3)) (hf : cells + mc ≤ R.cells ∧ slots + ms ≤ R.slots) : va_Run p l e R s m args below meth c H locs cells slots mc ms (F0 m pc ls st0) rest (Qc (Value.ref (ad kd i) :: As).toArray) free := wa_runV F hM (wa_wV qw_832 qw_833 qw_834 qw_51 qw_835) ⟨by decide, by decide, rfl⟩ hR hz hP (wa_rcv (q := (RX5, TX5, 32)) F.2.1 hw he rfl) hn hst hW hls hdg hf
theorem kL_122 {rm : Room} {Pre : Heap → Prop} {Qc : Array Value → State → Outcome → State → Prop} {free : Addr → Prop} {As : List Value} {mc ms : Nat} (F : wa_fx p s m c meth args cc nL RL nm ret D cy) (hM : Met l yX4_bakes wX4_bakes rm (wa_pc (.ref (ad kd i) :: As) D cy Pre) Qc mc ms free) (hR : wa_rm rm R 1) (hz : rm.cells = mc ∧ rm.slots = ms) (hP : Pre H) (hw : wa_wd D ad C H) (he : C kd i = some (.inr (4, fs))) (hn : As.length = 0) (hst : st0 = As.reverse ++ .ref (ad kd i) :: rest) (hW : (rest.map fun v => v.category).sum ≤ 8) (hls : ls.size = nL) (hdg : decode cc pc = .ok (.invokevirtual 122, 3)) (hf : cells + mc ≤ R.cells ∧ slots + ms ≤ R.slots) : va_Run p l e R s m args below meth c H locs cells slots mc ms (F0 m pc ls st0) rest (Qc (Value.ref (ad kd i) :: As).toArray) free := wa_runV F hM (wa_wV qw_152 qw_153 qw_154 qw_49 qw_155) ⟨by decide, by decide, rfl⟩ hR hz hP (wa_rcv (q := (RX4, TX4, 17)) F.2.1 hw he rfl) hn hst hW hls hdg hf
theorem kL_125 {rm : Room} {Pre : Heap → Prop} {Qc : Array Value → State → Outcome → State → Prop} {free : Addr → Prop} {As : List Value} {mc ms : Nat} (F : wa_fx p s m c meth args cc nL RL nm ret D cy) (hM : Met l yX5_bakes wX5_bakes rm (wa_pc (.ref (ad kd i) :: As) D cy Pre) Qc mc ms free) (hR : wa_rm rm R 1) (hz : rm.cells = mc ∧ rm.slots = ms) (hP : Pre H) (hw : wa_wd D ad C H) (he : C kd i = some (.inr (5, fs))) (hn : As.length = 0) (hst : st0 = As.reverse ++ .ref (ad kd i) :: rest) (hW : (rest.map fun v => v.category).sum ≤ 8) (hls : ls.size = nL) (hdg : decode cc pc = .ok (.invokevirtual 125, 3)) (hf : cells + mc ≤ R.cells ∧ slots + ms ≤ R.slots) : va_Run p l e R s m args below meth c H locs cells slots mc ms (F0 m pc ls st0) rest (Qc (Value.ref (ad kd i) :: As).toArray) free := wa_runV F hM (wa_wV qw_836 qw_837 qw_838 qw_51 qw_839) ⟨by decide, by decide, rfl⟩ hR hz hP (wa_rcv (q := (RX5, TX5, 32)) F.2.1 hw he rfl) hn hst hW hls hdg hf
theorem kL_128 {rm : Room} {Pre : Heap → Prop} {Qc : Array Value → State → Outcome → State → Prop} {free : Addr → Prop} {As : List Value} {mc ms : Nat} (F : wa_fx p s m c meth args cc nL RL nm ret D cy) (hM : Met l yX5_latest wX5_latest rm (wa_pc (.ref (ad kd i) :: As) D cy Pre) Qc mc ms free) (hR : wa_rm rm R 2) (hz : rm.cells = mc ∧ rm.slots = ms) (hP : Pre H) (hw : wa_wd D ad C H) (he : C kd i = some (.inr (5, fs))) (hn : As.length = 1) (hst : st0 = As.reverse ++ .ref (ad kd i) :: rest) (hW : (rest.map fun v => v.category).sum ≤ 8) (hls : ls.size = nL) (hdg : decode cc pc = .ok (.invokevirtual 128, 3)) (hf : cells + mc ≤ R.cells ∧ slots + ms ≤ R.slots) : va_Run p l e R s m args below meth c H locs cells slots mc ms (F0 m pc ls st0) rest (Qc (Value.ref (ad kd i) :: As).toArray) free := wa_runV F hM (wa_wV qw_840 qw_841 qw_842 qw_51 qw_843) ⟨by decide, by decide, rfl⟩ hR hz hP (wa_rcv (q := (RX5, TX5, 32)) F.2.1 hw he rfl) hn hst hW hls hdg hf
theorem kL_131 {rm : Room} {Pre : Heap → Prop} {Qc : Array Value → State → Outcome → State → Prop} {free : Addr → Prop} {As : List Value} {mc ms : Nat} (F : wa_fx p s m c meth args cc nL RL nm ret D cy) (hM : Met l yX5_top wX5_top rm (wa_pc (.ref (ad kd i) :: As) D cy Pre) Qc mc ms free) (hR : wa_rm rm R 2) (hz : rm.cells = mc ∧ rm.slots = ms) (hP : Pre H) (hw : wa_wd D ad C H) (he : C kd i = some (.inr (5, fs))) (hn : As.length = 1) (hst : st0 = As.reverse ++ .ref (ad kd i) :: rest) (hW : (rest.map fun v => v.category).sum ≤ 8) (hls : ls.size = nL) (hdg : decode cc pc = .ok (.invokevirtual 131, 3)) (hf : cells + mc ≤ R.cells ∧ slots + ms ≤ R.slots) : va_Run p l e R s m args below meth c H locs cells slots mc ms (F0 m pc ls st0) rest (Qc (Value.ref (ad kd i) :: As).toArray) free := wa_runV F hM (wa_wV qw_844 qw_845 qw_846 qw_51 qw_847) ⟨by decide, by decide, rfl⟩ hR hz hP (wa_rcv (q := (RX5, TX5, 32)) F.2.1 hw he rfl) hn hst hW hls hdg hf
theorem kL_135 {rm : Room} {Pre : Heap → Prop} {Qc : Array Value → State → Outcome → State → Prop} {free : Addr → Prop} {As : List Value} {mc ms : Nat} (F : wa_fx p s m c meth args cc nL RL nm ret D cy) (hM : Met l yX5_test wX5_test rm (wa_pc (.ref (ad kd i) :: As) D cy Pre) Qc mc ms free) (hR : wa_rm rm R 4) (hz : rm.cells = mc ∧ rm.slots = ms) (hP : Pre H) (hw : wa_wd D ad C H) (he : C kd i = some (.inr (5, fs))) (hn : As.length = 2) (hst : st0 = As.reverse ++ .ref (ad kd i) :: rest) (hW : (rest.map fun v => v.category).sum ≤ 8) (hls : ls.size = nL) (hdg : decode cc pc = .ok (.invokevirtual 135, 3)) (hf : cells + mc ≤ R.cells ∧ slots + ms ≤ R.slots) : va_Run p l e R s m args below meth c H locs cells slots mc ms (F0 m pc ls st0) rest (Qc (Value.ref (ad kd i) :: As).toArray) free := wa_runV F hM (wa_wV qw_852 qw_853 qw_854 qw_51 qw_855) ⟨by decide, by decide, rfl⟩ hR hz hP (wa_rcv (q := (RX5, TX5, 32)) F.2.1 hw he rfl) hn hst hW hls hdg hf
theorem kL_138 {rm : Room} {Pre : Heap → Prop} {Qc : Array Value → State → Outcome → State → Prop} {free : Addr → Prop} {As : List Value} {mc ms : Nat} (F : wa_fx p s m c meth args cc nL RL nm ret D cy) (hM : Met l yX5_hold wX5_hold rm (wa_pc (.ref (ad kd i) :: As) D cy Pre) Qc mc ms free) (hR : wa_rm rm R 3) (hz : rm.cells = mc ∧ rm.slots = ms) (hP : Pre H) (hw : wa_wd D ad C H) (he : C kd i = some (.inr (5, fs))) (hn : As.length = 1) (hst : st0 = As.reverse ++ .ref (ad kd i) :: rest) (hW : (rest.map fun v => v.category).sum ≤ 8) (hls : ls.size = nL) (hdg : decode cc pc = .ok (.invokevirtual 138, 3)) (hf : cells + mc ≤ R.cells ∧ slots + ms ≤ R.slots) : va_Run p l e R s m args below meth c H locs cells slots mc ms (F0 m pc ls st0) rest (Qc (Value.ref (ad kd i) :: As).toArray) free := wa_runV F hM (wa_wV qw_856 qw_857 qw_858 qw_51 qw_859) ⟨by decide, by decide, rfl⟩ hR hz hP (wa_rcv (q := (RX5, TX5, 32)) F.2.1 hw he rfl) hn hst hW hls hdg hf
theorem kL_141 {rm : Room} {Pre : Heap → Prop} {Qc : Array Value → State → Outcome → State → Prop} {free : Addr → Prop} {As : List Value} {mc ms : Nat} (F : wa_fx p s m c meth args cc nL RL nm ret D cy) (hM : Met l yX5_raise wX5_raise rm (wa_pc (.ref (ad kd i) :: As) D cy Pre) Qc mc ms free) (hR : wa_rm rm R 3) (hz : rm.cells = mc ∧ rm.slots = ms) (hP : Pre H) (hw : wa_wd D ad C H) (he : C kd i = some (.inr (5, fs))) (hn : As.length = 1) (hst : st0 = As.reverse ++ .ref (ad kd i) :: rest) (hW : (rest.map fun v => v.category).sum ≤ 8) (hls : ls.size = nL) (hdg : decode cc pc = .ok (.invokevirtual 141, 3)) (hf : cells + mc ≤ R.cells ∧ slots + ms ≤ R.slots) : va_Run p l e R s m args below meth c H locs cells slots mc ms (F0 m pc ls st0) rest (Qc (Value.ref (ad kd i) :: As).toArray) free := wa_runV F hM (wa_wV qw_864 qw_865 qw_866 qw_51 qw_867) ⟨by decide, by decide, rfl⟩ hR hz hP (wa_rcv (q := (RX5, TX5, 32)) F.2.1 hw he rfl) hn hst hW hls hdg hf
theorem kL_144 {rm : Room} {Pre : Heap → Prop} {Qc : Array Value → State → Outcome → State → Prop} {free : Addr → Prop} {As : List Value} {mc ms : Nat} (F : wa_fx p s m c meth args cc nL RL nm ret D cy) (hM : Met l yX5_copy wX5_copy rm (wa_pc (.ref (ad kd i) :: As) D cy Pre) Qc mc ms free) (hR : wa_rm rm R 5) (hz : rm.cells = mc ∧ rm.slots = ms) (hP : Pre H) (hw : wa_wd D ad C H) (he : C kd i = some (.inr (5, fs))) (hn : As.length = 2) (hst : st0 = As.reverse ++ .ref (ad kd i) :: rest) (hW : (rest.map fun v => v.category).sum ≤ 8) (hls : ls.size = nL) (hdg : decode cc pc = .ok (.invokevirtual 144, 3)) (hf : cells + mc ≤ R.cells ∧ slots + ms ≤ R.slots) : va_Run p l e R s m args below meth c H locs cells slots mc ms (F0 m pc ls st0) rest (Qc (Value.ref (ad kd i) :: As).toArray) free := wa_runV F hM (wa_wV qw_868 qw_869 qw_870 qw_51 qw_871) ⟨by decide, by decide, rfl⟩ hR hz hP (wa_rcv (q := (RX5, TX5, 32)) F.2.1 hw he rfl) hn hst hW hls hdg hf
theorem kL_148 {rm : Room} {Pre : Heap → Prop} {Qc : Array Value → State → Outcome → State → Prop} {free : Addr → Prop} {As : List Value} {mc ms : Nat} (F : wa_fx p s m c meth args cc nL RL nm ret D cy) (hM : Met l yX5_setRules wX5_setRules rm (wa_pc (.ref (ad kd i) :: As) D cy Pre) Qc mc ms free) (hR : wa_rm rm R 6) (hz : rm.cells = mc ∧ rm.slots = ms) (hP : Pre H) (hw : wa_wd D ad C H) (he : C kd i = some (.inr (5, fs))) (hn : As.length = 4) (hst : st0 = As.reverse ++ .ref (ad kd i) :: rest) (hW : (rest.map fun v => v.category).sum ≤ 8) (hls : ls.size = nL) (hdg : decode cc pc = .ok (.invokevirtual 148, 3)) (hf : cells + mc ≤ R.cells ∧ slots + ms ≤ R.slots) : va_Run p l e R s m args below meth c H locs cells slots mc ms (F0 m pc ls st0) rest (Qc (Value.ref (ad kd i) :: As).toArray) free := wa_runV F hM (wa_wV qw_872 qw_873 qw_874 qw_51 qw_875) ⟨by decide, by decide, rfl⟩ hR hz hP (wa_rcv (q := (RX5, TX5, 32)) F.2.1 hw he rfl) hn hst hW hls hdg hf
theorem kL_151 {rm : Room} {Pre : Heap → Prop} {Qc : Array Value → State → Outcome → State → Prop} {free : Addr → Prop} {As : List Value} {mc ms : Nat} (F : wa_fx p s m c meth args cc nL RL nm ret D cy) (hM : Met l yX5_pass wX5_pass rm (wa_pc (.ref (ad kd i) :: As) D cy Pre) Qc mc ms free) (hR : wa_rm rm R 5) (hz : rm.cells = mc ∧ rm.slots = ms) (hP : Pre H) (hw : wa_wd D ad C H) (he : C kd i = some (.inr (5, fs))) (hn : As.length = 1) (hst : st0 = As.reverse ++ .ref (ad kd i) :: rest) (hW : (rest.map fun v => v.category).sum ≤ 8) (hls : ls.size = nL) (hdg : decode cc pc = .ok (.invokevirtual 151, 3)) (hf : cells + mc ≤ R.cells ∧ slots + ms ≤ R.slots) : va_Run p l e R s m args below meth c H locs cells slots mc ms (F0 m pc ls st0) rest (Qc (Value.ref (ad kd i) :: As).toArray) free := wa_runV F hM (wa_wV qw_876 qw_877 qw_878 qw_51 qw_879) ⟨by decide, by decide, rfl⟩ hR hz hP (wa_rcv (q := (RX5, TX5, 32)) F.2.1 hw he rfl) hn hst hW hls hdg hf
theorem kL_154 {rm : Room} {Pre : Heap → Prop} {Qc : Array Value → State → Outcome → State → Prop} {free : Addr → Prop} {As : List Value} {mc ms : Nat} (F : wa_fx p s m c meth args cc nL RL nm ret D cy) (hM : Met l yX5_state wX5_state rm (wa_pc (.ref (ad kd i) :: As) D cy Pre) Qc mc ms free) (hR : wa_rm rm R 2) (hz : rm.cells = mc ∧ rm.slots = ms) (hP : Pre H) (hw : wa_wd D ad C H) (he : C kd i = some (.inr (5, fs))) (hn : As.length = 1) (hst : st0 = As.reverse ++ .ref (ad kd i) :: rest) (hW : (rest.map fun v => v.category).sum ≤ 8) (hls : ls.size = nL) (hdg : decode cc pc = .ok (.invokevirtual 154, 3)) (hf : cells + mc ≤ R.cells ∧ slots + ms ≤ R.slots) : va_Run p l e R s m args below meth c H locs cells slots mc ms (F0 m pc ls st0) rest (Qc (Value.ref (ad kd i) :: As).toArray) free := wa_runV F hM (wa_wV qw_880 qw_881 qw_882 qw_51 qw_883) ⟨by decide, by decide, rfl⟩ hR hz hP (wa_rcv (q := (RX5, TX5, 32)) F.2.1 hw he rfl) hn hst hW hls hdg hf
theorem kL_158 {rm : Room} {Pre : Heap → Prop} {Qc : Array Value → State → Outcome → State → Prop} {free : Addr → Prop} {As : List Value} {mc ms : Nat} (F : wa_fx p s m c meth args cc nL RL nm ret D cy) (hM : Met l yX5_start wX5_start rm (wa_pc (.ref (ad kd i) :: As) D cy Pre) Qc mc ms free) (hR : wa_rm rm R 7) (hz : rm.cells = mc ∧ rm.slots = ms) (hP : Pre H) (hw : wa_wd D ad C H) (he : C kd i = some (.inr (5, fs))) (hn : As.length = 3) (hst : st0 = As.reverse ++ .ref (ad kd i) :: rest) (hW : (rest.map fun v => v.category).sum ≤ 8) (hls : ls.size = nL) (hdg : decode cc pc = .ok (.invokevirtual 158, 3)) (hf : cells + mc ≤ R.cells ∧ slots + ms ≤ R.slots) : va_Run p l e R s m args below meth c H locs cells slots mc ms (F0 m pc ls st0) rest (Qc (Value.ref (ad kd i) :: As).toArray) free := wa_runV F hM (wa_wV qw_888 qw_889 qw_890 qw_51 qw_891) ⟨by decide, by decide, rfl⟩ hR hz hP (wa_rcv (q := (RX5, TX5, 32)) F.2.1 hw he rfl) hn hst hW hls hdg hf
theorem kL_161 {rm : Room} {Pre : Heap → Prop} {Qc : Array Value → State → Outcome → State → Prop} {free : Addr → Prop} {As : List Value} {mc ms : Nat} (F : wa_fx p s m c meth args cc nL RL nm ret D cy) (hM : Met l yX5_renew wX5_renew rm (wa_pc (.ref (ad kd i) :: As) D cy Pre) Qc mc ms free) (hR : wa_rm rm R 3) (hz : rm.cells = mc ∧ rm.slots = ms) (hP : Pre H) (hw : wa_wd D ad C H) (he : C kd i = some (.inr (5, fs))) (hn : As.length = 1) (hst : st0 = As.reverse ++ .ref (ad kd i) :: rest) (hW : (rest.map fun v => v.category).sum ≤ 8) (hls : ls.size = nL) (hdg : decode cc pc = .ok (.invokevirtual 161, 3)) (hf : cells + mc ≤ R.cells ∧ slots + ms ≤ R.slots) : va_Run p l e R s m args below meth c H locs cells slots mc ms (F0 m pc ls st0) rest (Qc (Value.ref (ad kd i) :: As).toArray) free := wa_runV F hM (wa_wV qw_896 qw_897 qw_898 qw_51 qw_899) ⟨by decide, by decide, rfl⟩ hR hz hP (wa_rcv (q := (RX5, TX5, 32)) F.2.1 hw he rfl) hn hst hW hls hdg hf
theorem kL_164 {rm : Room} {Pre : Heap → Prop} {Qc : Array Value → State → Outcome → State → Prop} {free : Addr → Prop} {As : List Value} {mc ms : Nat} (F : wa_fx p s m c meth args cc nL RL nm ret D cy) (hM : Met l yX5_stop wX5_stop rm (wa_pc (.ref (ad kd i) :: As) D cy Pre) Qc mc ms free) (hR : wa_rm rm R 3) (hz : rm.cells = mc ∧ rm.slots = ms) (hP : Pre H) (hw : wa_wd D ad C H) (he : C kd i = some (.inr (5, fs))) (hn : As.length = 1) (hst : st0 = As.reverse ++ .ref (ad kd i) :: rest) (hW : (rest.map fun v => v.category).sum ≤ 8) (hls : ls.size = nL) (hdg : decode cc pc = .ok (.invokevirtual 164, 3)) (hf : cells + mc ≤ R.cells ∧ slots + ms ≤ R.slots) : va_Run p l e R s m args below meth c H locs cells slots mc ms (F0 m pc ls st0) rest (Qc (Value.ref (ad kd i) :: As).toArray) free := wa_runV F hM (wa_wV qw_908 qw_909 qw_910 qw_51 qw_911) ⟨by decide, by decide, rfl⟩ hR hz hP (wa_rcv (q := (RX5, TX5, 32)) F.2.1 hw he rfl) hn hst hW hls hdg hf
theorem kL_167 {rm : Room} {Pre : Heap → Prop} {Qc : Array Value → State → Outcome → State → Prop} {free : Addr → Prop} {As : List Value} {mc ms : Nat} (F : wa_fx p s m c meth args cc nL RL nm ret D cy) (hM : Met l yX5_runsFrom wX5_runsFrom rm (wa_pc (.ref (ad kd i) :: As) D cy Pre) Qc mc ms free) (hR : wa_rm rm R 2) (hz : rm.cells = mc ∧ rm.slots = ms) (hP : Pre H) (hw : wa_wd D ad C H) (he : C kd i = some (.inr (5, fs))) (hn : As.length = 1) (hst : st0 = As.reverse ++ .ref (ad kd i) :: rest) (hW : (rest.map fun v => v.category).sum ≤ 8) (hls : ls.size = nL) (hdg : decode cc pc = .ok (.invokevirtual 167, 3)) (hf : cells + mc ≤ R.cells ∧ slots + ms ≤ R.slots) : va_Run p l e R s m args below meth c H locs cells slots mc ms (F0 m pc ls st0) rest (Qc (Value.ref (ad kd i) :: As).toArray) free := wa_runV F hM (wa_wV qw_912 qw_913 qw_914 qw_51 qw_915) ⟨by decide, by decide, rfl⟩ hR hz hP (wa_rcv (q := (RX5, TX5, 32)) F.2.1 hw he rfl) hn hst hW hls hdg hf
theorem kL_168 {rm : Room} {Pre : Heap → Prop} {Qc : Array Value → State → Outcome → State → Prop} {free : Addr → Prop} {As : List Value} {mc ms : Nat} (F : wa_fx p s m c meth args cc nL RL nm ret D cy) (hM : Met l yX4_old wX4_old rm (wa_pc (.ref (ad kd i) :: As) D cy Pre) Qc mc ms free) (hR : wa_rm rm R 1) (hz : rm.cells = mc ∧ rm.slots = ms) (hP : Pre H) (hw : wa_wd D ad C H) (he : C kd i = some (.inr (4, fs))) (hn : As.length = 0) (hst : st0 = As.reverse ++ .ref (ad kd i) :: rest) (hW : (rest.map fun v => v.category).sum ≤ 8) (hls : ls.size = nL) (hdg : decode cc pc = .ok (.invokevirtual 168, 3)) (hf : cells + mc ≤ R.cells ∧ slots + ms ≤ R.slots) : va_Run p l e R s m args below meth c H locs cells slots mc ms (F0 m pc ls st0) rest (Qc (Value.ref (ad kd i) :: As).toArray) free := wa_runV F hM (wa_wV qw_156 qw_157 qw_158 qw_49 qw_159) ⟨by decide, by decide, rfl⟩ hR hz hP (wa_rcv (q := (RX4, TX4, 17)) F.2.1 hw he rfl) hn hst hW hls hdg hf
theorem kL_171 {rm : Room} {Pre : Heap → Prop} {Qc : Array Value → State → Outcome → State → Prop} {free : Addr → Prop} {As : List Value} {mc ms : Nat} (F : wa_fx p s m c meth args cc nL RL nm ret D cy) (hM : Met l yX5_old wX5_old rm (wa_pc (.ref (ad kd i) :: As) D cy Pre) Qc mc ms free) (hR : wa_rm rm R 3) (hz : rm.cells = mc ∧ rm.slots = ms) (hP : Pre H) (hw : wa_wd D ad C H) (he : C kd i = some (.inr (5, fs))) (hn : As.length = 0) (hst : st0 = As.reverse ++ .ref (ad kd i) :: rest) (hW : (rest.map fun v => v.category).sum ≤ 8) (hls : ls.size = nL) (hdg : decode cc pc = .ok (.invokevirtual 171, 3)) (hf : cells + mc ≤ R.cells ∧ slots + ms ≤ R.slots) : va_Run p l e R s m args below meth c H locs cells slots mc ms (F0 m pc ls st0) rest (Qc (Value.ref (ad kd i) :: As).toArray) free := wa_runV F hM (wa_wV qw_916 qw_917 qw_918 qw_51 qw_919) ⟨by decide, by decide, rfl⟩ hR hz hP (wa_rcv (q := (RX5, TX5, 32)) F.2.1 hw he rfl) hn hst hW hls hdg hf
theorem kL_174 {rm : Room} {Pre : Heap → Prop} {Qc : Array Value → State → Outcome → State → Prop} {free : Addr → Prop} {As : List Value} {mc ms : Nat} (F : wa_fx p s m c meth args cc nL RL nm ret D cy) (hM : Met l yX5_oldAt wX5_oldAt rm (wa_pc (.ref (ad kd i) :: As) D cy Pre) Qc mc ms free) (hR : wa_rm rm R 5) (hz : rm.cells = mc ∧ rm.slots = ms) (hP : Pre H) (hw : wa_wd D ad C H) (he : C kd i = some (.inr (5, fs))) (hn : As.length = 1) (hst : st0 = As.reverse ++ .ref (ad kd i) :: rest) (hW : (rest.map fun v => v.category).sum ≤ 8) (hls : ls.size = nL) (hdg : decode cc pc = .ok (.invokevirtual 174, 3)) (hf : cells + mc ≤ R.cells ∧ slots + ms ≤ R.slots) : va_Run p l e R s m args below meth c H locs cells slots mc ms (F0 m pc ls st0) rest (Qc (Value.ref (ad kd i) :: As).toArray) free := wa_runV F hM (wa_wV qw_924 qw_925 qw_926 qw_51 qw_927) ⟨by decide, by decide, rfl⟩ hR hz hP (wa_rcv (q := (RX5, TX5, 32)) F.2.1 hw he rfl) hn hst hW hls hdg hf
theorem kX0_29 {rm : Room} {Pre : Heap → Prop} {Qc : Array Value → State → Outcome → State → Prop} {free : Addr → Prop} {As : List Value} {mc ms : Nat} (F : wa_fx p s m c meth args cc nL RX0 nm ret D cy) (hM : Met l yX4_at wX4_at rm (wa_pc As D cy Pre) Qc mc ms free) (hR : wa_rm rm R 2) (hz : rm.cells = mc ∧ rm.slots = ms) (hP : Pre H) (hn : As.length = 2) (hst : st0 = As.reverse ++ rest) (hW : (rest.map fun v => v.category).sum ≤ 8) (hls : ls.size = nL) (hdg : decode cc pc = .ok (.invokestatic 29, 3)) (hf : cells + mc ≤ R.cells ∧ slots + ms ≤ R.slots) : va_Run p l e R s m args below meth c H locs cells slots mc ms (F0 m pc ls st0) rest (Qc As.toArray) free := wa_runSN F hM (wa_w1 qw_187) qn_137 qw_49 qw_186 ⟨by decide, by decide, rfl⟩ hR hz hP hn hst hW hls hdg hf
theorem kX2_25 {rm : Room} {Pre : Heap → Prop} {Qc : Array Value → State → Outcome → State → Prop} {free : Addr → Prop} {As : List Value} {mc ms : Nat} (F : wa_fx p s m c meth args cc nL RX2 nm ret D cy) (hM : Met l yX2_isOf wX2_isOf rm (wa_pc (.ref (ad kd i) :: As) D cy Pre) Qc mc ms free) (hR : wa_rm rm R 4) (hz : rm.cells = mc ∧ rm.slots = ms) (hP : Pre H) (hw : wa_wd D ad C H) (he : C kd i = some (.inr (2, fs))) (hn : As.length = 3) (hst : st0 = As.reverse ++ .ref (ad kd i) :: rest) (hW : (rest.map fun v => v.category).sum ≤ 8) (hls : ls.size = nL) (hdg : decode cc pc = .ok (.invokevirtual 25, 3)) (hf : cells + mc ≤ R.cells ∧ slots + ms ≤ R.slots) : va_Run p l e R s m args below meth c H locs cells slots mc ms (F0 m pc ls st0) rest (Qc (Value.ref (ad kd i) :: As).toArray) free := wa_runV F hM (wa_wV qw_381 qw_383 qw_13 qw_50 qw_384) ⟨by decide, by decide, rfl⟩ hR hz hP (wa_rcv (q := (RX2, TX2, 4)) F.2.1 hw he rfl) hn hst hW hls hdg hf
theorem kX2_29 {rm : Room} {Pre : Heap → Prop} {Qc : Array Value → State → Outcome → State → Prop} {free : Addr → Prop} {As : List Value} {mc ms : Nat} (F : wa_fx p s m c meth args cc nL RX2 nm ret D cy) (hM : Met l yX2_find wX2_find rm (wa_pc (.ref (ad kd i) :: As) D cy Pre) Qc mc ms free) (hR : wa_rm rm R 5) (hz : rm.cells = mc ∧ rm.slots = ms) (hP : Pre H) (hw : wa_wd D ad C H) (he : C kd i = some (.inr (2, fs))) (hn : As.length = 3) (hst : st0 = As.reverse ++ .ref (ad kd i) :: rest) (hW : (rest.map fun v => v.category).sum ≤ 8) (hls : ls.size = nL) (hdg : decode cc pc = .ok (.invokevirtual 29, 3)) (hf : cells + mc ≤ R.cells ∧ slots + ms ≤ R.slots) : va_Run p l e R s m args below meth c H locs cells slots mc ms (F0 m pc ls st0) rest (Qc (Value.ref (ad kd i) :: As).toArray) free := wa_runV F hM (wa_wV qw_399 qw_379 qw_12 qw_50 qw_380) ⟨by decide, by decide, rfl⟩ hR hz hP (wa_rcv (q := (RX2, TX2, 4)) F.2.1 hw he rfl) hn hst hW hls hdg hf
theorem kX2_33 {rm : Room} {Pre : Heap → Prop} {Qc : Array Value → State → Outcome → State → Prop} {free : Addr → Prop} {As : List Value} {mc ms : Nat} (F : wa_fx p s m c meth args cc nL RX2 nm ret D cy) (hM : Met l yX4_at wX4_at rm (wa_pc As D cy Pre) Qc mc ms free) (hR : wa_rm rm R 2) (hz : rm.cells = mc ∧ rm.slots = ms) (hP : Pre H) (hn : As.length = 2) (hst : st0 = As.reverse ++ rest) (hW : (rest.map fun v => v.category).sum ≤ 8) (hls : ls.size = nL) (hdg : decode cc pc = .ok (.invokestatic 33, 3)) (hf : cells + mc ≤ R.cells ∧ slots + ms ≤ R.slots) : va_Run p l e R s m args below meth c H locs cells slots mc ms (F0 m pc ls st0) rest (Qc As.toArray) free := wa_runSN F hM (wa_w1 qw_187) qn_337 qw_49 qw_186 ⟨by decide, by decide, rfl⟩ hR hz hP hn hst hW hls hdg hf
theorem kX4_63 {rm : Room} {Pre : Heap → Prop} {Qc : Array Value → State → Outcome → State → Prop} {free : Addr → Prop} {As : List Value} {mc ms : Nat} (F : wa_fx p s m c meth args cc nL RX4 nm ret D cy) (hM : Met l yX4_imageAt wX4_imageAt rm (wa_pc (.ref (ad kd i) :: As) D cy Pre) Qc mc ms free) (hR : wa_rm rm R 3) (hz : rm.cells = mc ∧ rm.slots = ms) (hP : Pre H) (hw : wa_wd D ad C H) (he : C kd i = some (.inr (4, fs))) (hn : As.length = 1) (hst : st0 = As.reverse ++ .ref (ad kd i) :: rest) (hW : (rest.map fun v => v.category).sum ≤ 8) (hls : ls.size = nL) (hdg : decode cc pc = .ok (.invokevirtual 63, 3)) (hf : cells + mc ≤ R.cells ∧ slots + ms ≤ R.slots) : va_Run p l e R s m args below meth c H locs cells slots mc ms (F0 m pc ls st0) rest (Qc (Value.ref (ad kd i) :: As).toArray) free := wa_runV F hM (wa_wV qw_204 qw_206 qw_7 qw_49 qw_207) ⟨by decide, by decide, rfl⟩ hR hz hP (wa_rcv (q := (RX4, TX4, 17)) F.2.1 hw he rfl) hn hst hW hls hdg hf
theorem kX4_88 {rm : Room} {Pre : Heap → Prop} {Qc : Array Value → State → Outcome → State → Prop} {free : Addr → Prop} {As : List Value} {mc ms : Nat} (F : wa_fx p s m c meth args cc nL RX4 nm ret D cy) (hM : Met l yX1_takesStep wX1_takesStep rm (wa_pc (.ref (ad kd i) :: As) D cy Pre) Qc mc ms free) (hR : wa_rm rm R 2) (hz : rm.cells = mc ∧ rm.slots = ms) (hP : Pre H) (hw : wa_wd D ad C H) (he : C kd i = some (.inr (1, fs))) (hn : As.length = 1) (hst : st0 = As.reverse ++ .ref (ad kd i) :: rest) (hW : (rest.map fun v => v.category).sum ≤ 8) (hls : ls.size = nL) (hdg : decode cc pc = .ok (.invokevirtual 88, 3)) (hf : cells + mc ≤ R.cells ∧ slots + ms ≤ R.slots) : va_Run p l e R s m args below meth c H locs cells slots mc ms (F0 m pc ls st0) rest (Qc (Value.ref (ad kd i) :: As).toArray) free := wa_runVN F hM (wa_w1 qw_347) qn_296 qw_57 qw_346 qw_9 ⟨by decide, by decide, rfl⟩ hR hz hP (wa_rcv (q := (RX1, TX1, 6)) F.2.1 hw he rfl) hn hst hW hls hdg hf
theorem kX4_109 {rm : Room} {Pre : Heap → Prop} {Qc : Array Value → State → Outcome → State → Prop} {free : Addr → Prop} {As : List Value} {mc ms : Nat} (F : wa_fx p s m c meth args cc nL RX4 nm ret D cy) (hM : Met l yX4_needsBake wX4_needsBake rm (wa_pc (.ref (ad kd i) :: As) D cy Pre) Qc mc ms free) (hR : wa_rm rm R 2) (hz : rm.cells = mc ∧ rm.slots = ms) (hP : Pre H) (hw : wa_wd D ad C H) (he : C kd i = some (.inr (4, fs))) (hn : As.length = 1) (hst : st0 = As.reverse ++ .ref (ad kd i) :: rest) (hW : (rest.map fun v => v.category).sum ≤ 8) (hls : ls.size = nL) (hdg : decode cc pc = .ok (.invokevirtual 109, 3)) (hf : cells + mc ≤ R.cells ∧ slots + ms ≤ R.slots) : va_Run p l e R s m args below meth c H locs cells slots mc ms (F0 m pc ls st0) rest (Qc (Value.ref (ad kd i) :: As).toArray) free := wa_runV F hM (wa_wV qw_365 qw_367 qw_10 qw_49 qw_368) ⟨by decide, by decide, rfl⟩ hR hz hP (wa_rcv (q := (RX4, TX4, 17)) F.2.1 hw he rfl) hn hst hW hls hdg hf
theorem kX4_118 {rm : Room} {Pre : Heap → Prop} {Qc : Array Value → State → Outcome → State → Prop} {free : Addr → Prop} {As : List Value} {mc ms : Nat} (F : wa_fx p s m c meth args cc nL RX4 nm ret D cy) (hM : Met l yX4_bakeIfNeeded wX4_bakeIfNeeded rm (wa_pc (.ref (ad kd i) :: As) D cy Pre) Qc mc ms free) (hR : wa_rm rm R 4) (hz : rm.cells = mc ∧ rm.slots = ms) (hP : Pre H) (hw : wa_wd D ad C H) (he : C kd i = some (.inr (4, fs))) (hn : As.length = 1) (hst : st0 = As.reverse ++ .ref (ad kd i) :: rest) (hW : (rest.map fun v => v.category).sum ≤ 8) (hls : ls.size = nL) (hdg : decode cc pc = .ok (.invokevirtual 118, 3)) (hf : cells + mc ≤ R.cells ∧ slots + ms ≤ R.slots) : va_Run p l e R s m args below meth c H locs cells slots mc ms (F0 m pc ls st0) rest (Qc (Value.ref (ad kd i) :: As).toArray) free := wa_runV F hM (wa_wV qw_387 qw_389 qw_14 qw_49 qw_390) ⟨by decide, by decide, rfl⟩ hR hz hP (wa_rcv (q := (RX4, TX4, 17)) F.2.1 hw he rfl) hn hst hW hls hdg hf
theorem kX4_122 {rm : Room} {Pre : Heap → Prop} {Qc : Array Value → State → Outcome → State → Prop} {free : Addr → Prop} {As : List Value} {mc ms : Nat} (F : wa_fx p s m c meth args cc nL RX4 nm ret D cy) (hM : Met l yX4_numberOf wX4_numberOf rm (wa_pc As D cy Pre) Qc mc ms free) (hR : wa_rm rm R 1) (hz : rm.cells = mc ∧ rm.slots = ms) (hP : Pre H) (hn : As.length = 1) (hst : st0 = As.reverse ++ rest) (hW : (rest.map fun v => v.category).sum ≤ 8) (hls : ls.size = nL) (hdg : decode cc pc = .ok (.invokestatic 122, 3)) (hf : cells + mc ≤ R.cells ∧ slots + ms ≤ R.slots) : va_Run p l e R s m args below meth c H locs cells slots mc ms (F0 m pc ls st0) rest (Qc As.toArray) free := wa_runS F hM (wa_wS qw_436 qw_437 qw_49 qw_438) rfl ⟨by decide, by decide, rfl⟩ hR hz hP hn hst hW hls hdg hf
theorem kX4_126 {rm : Room} {Pre : Heap → Prop} {Qc : Array Value → State → Outcome → State → Prop} {free : Addr → Prop} {As : List Value} {mc ms : Nat} (F : wa_fx p s m c meth args cc nL RX4 nm ret D cy) (hM : Met l yX4_countBakesToCome wX4_countBakesToCome rm (wa_pc (.ref (ad kd i) :: As) D cy Pre) Qc mc ms free) (hR : wa_rm rm R 7) (hz : rm.cells = mc ∧ rm.slots = ms) (hP : Pre H) (hw : wa_wd D ad C H) (he : C kd i = some (.inr (4, fs))) (hn : As.length = 0) (hst : st0 = As.reverse ++ .ref (ad kd i) :: rest) (hW : (rest.map fun v => v.category).sum ≤ 8) (hls : ls.size = nL) (hdg : decode cc pc = .ok (.invokevirtual 126, 3)) (hf : cells + mc ≤ R.cells ∧ slots + ms ≤ R.slots) : va_Run p l e R s m args below meth c H locs cells slots mc ms (F0 m pc ls st0) rest (Qc (Value.ref (ad kd i) :: As).toArray) free := wa_runV F hM (wa_wV qw_446 qw_448 qw_17 qw_49 qw_449) ⟨by decide, by decide, rfl⟩ hR hz hP (wa_rcv (q := (RX4, TX4, 17)) F.2.1 hw he rfl) hn hst hW hls hdg hf
theorem kX4_132 {rm : Room} {Pre : Heap → Prop} {Qc : Array Value → State → Outcome → State → Prop} {free : Addr → Prop} {As : List Value} {mc ms : Nat} (F : wa_fx p s m c meth args cc nL RX4 nm ret D cy) (hM : Met l yX4_fillLine wX4_fillLine rm (wa_pc (.ref (ad kd i) :: As) D cy Pre) Qc mc ms free) (hR : wa_rm rm R 3) (hz : rm.cells = mc ∧ rm.slots = ms) (hP : Pre H) (hw : wa_wd D ad C H) (he : C kd i = some (.inr (4, fs))) (hn : As.length = 0) (hst : st0 = As.reverse ++ .ref (ad kd i) :: rest) (hW : (rest.map fun v => v.category).sum ≤ 8) (hls : ls.size = nL) (hdg : decode cc pc = .ok (.invokevirtual 132, 3)) (hf : cells + mc ≤ R.cells ∧ slots + ms ≤ R.slots) : va_Run p l e R s m args below meth c H locs cells slots mc ms (F0 m pc ls st0) rest (Qc (Value.ref (ad kd i) :: As).toArray) free := wa_runV F hM (wa_wV qw_451 qw_453 qw_18 qw_49 qw_454) ⟨by decide, by decide, rfl⟩ hR hz hP (wa_rcv (q := (RX4, TX4, 17)) F.2.1 hw he rfl) hn hst hW hls hdg hf
theorem kX4_135 {rm : Room} {Pre : Heap → Prop} {Qc : Array Value → State → Outcome → State → Prop} {free : Addr → Prop} {As : List Value} {mc ms : Nat} (F : wa_fx p s m c meth args cc nL RX4 nm ret D cy) (hM : Met l yX4_isMadeAsNow wX4_isMadeAsNow rm (wa_pc (.ref (ad kd i) :: As) D cy Pre) Qc mc ms free) (hR : wa_rm rm R 6) (hz : rm.cells = mc ∧ rm.slots = ms) (hP : Pre H) (hw : wa_wd D ad C H) (he : C kd i = some (.inr (4, fs))) (hn : As.length = 1) (hst : st0 = As.reverse ++ .ref (ad kd i) :: rest) (hW : (rest.map fun v => v.category).sum ≤ 8) (hls : ls.size = nL) (hdg : decode cc pc = .ok (.invokevirtual 135, 3)) (hf : cells + mc ≤ R.cells ∧ slots + ms ≤ R.slots) : va_Run p l e R s m args below meth c H locs cells slots mc ms (F0 m pc ls st0) rest (Qc (Value.ref (ad kd i) :: As).toArray) free := wa_runV F hM (wa_wV qw_473 qw_475 qw_20 qw_49 qw_476) ⟨by decide, by decide, rfl⟩ hR hz hP (wa_rcv (q := (RX4, TX4, 17)) F.2.1 hw he rfl) hn hst hW hls hdg hf
theorem kX4_141 {rm : Room} {Pre : Heap → Prop} {Qc : Array Value → State → Outcome → State → Prop} {free : Addr → Prop} {As : List Value} {mc ms : Nat} (F : wa_fx p s m c meth args cc nL RX4 nm ret D cy) (hM : Met l yX4_bakeAt wX4_bakeAt rm (wa_pc (.ref (ad kd i) :: As) D cy Pre) Qc mc ms free) (hR : wa_rm rm R 3) (hz : rm.cells = mc ∧ rm.slots = ms) (hP : Pre H) (hw : wa_wd D ad C H) (he : C kd i = some (.inr (4, fs))) (hn : As.length = 1) (hst : st0 = As.reverse ++ .ref (ad kd i) :: rest) (hW : (rest.map fun v => v.category).sum ≤ 8) (hls : ls.size = nL) (hdg : decode cc pc = .ok (.invokevirtual 141, 3)) (hf : cells + mc ≤ R.cells ∧ slots + ms ≤ R.slots) : va_Run p l e R s m args below meth c H locs cells slots mc ms (F0 m pc ls st0) rest (Qc (Value.ref (ad kd i) :: As).toArray) free := wa_runV F hM (wa_wV qw_504 qw_506 qw_24 qw_49 qw_507) ⟨by decide, by decide, rfl⟩ hR hz hP (wa_rcv (q := (RX4, TX4, 17)) F.2.1 hw he rfl) hn hst hW hls hdg hf
theorem kX4_162 {rm : Room} {Pre : Heap → Prop} {Qc : Array Value → State → Outcome → State → Prop} {free : Addr → Prop} {As : List Value} {mc ms : Nat} (F : wa_fx p s m c meth args cc nL RX4 nm ret D cy) (hM : Met l yX4_countMachinesFrom wX4_countMachinesFrom rm (wa_pc (.ref (ad kd i) :: As) D cy Pre) Qc mc ms free) (hR : wa_rm rm R 7) (hz : rm.cells = mc ∧ rm.slots = ms) (hP : Pre H) (hw : wa_wd D ad C H) (he : C kd i = some (.inr (4, fs))) (hn : As.length = 1) (hst : st0 = As.reverse ++ .ref (ad kd i) :: rest) (hW : (rest.map fun v => v.category).sum ≤ 8) (hls : ls.size = nL) (hdg : decode cc pc = .ok (.invokevirtual 162, 3)) (hf : cells + mc ≤ R.cells ∧ slots + ms ≤ R.slots) : va_Run p l e R s m args below meth c H locs cells slots mc ms (F0 m pc ls st0) rest (Qc (Value.ref (ad kd i) :: As).toArray) free := wa_runV F hM (wa_wV qw_525 qw_527 qw_25 qw_49 qw_528) ⟨by decide, by decide, rfl⟩ hR hz hP (wa_rcv (q := (RX4, TX4, 17)) F.2.1 hw he rfl) hn hst hW hls hdg hf
theorem kX4_172 {rm : Room} {Pre : Heap → Prop} {Qc : Array Value → State → Outcome → State → Prop} {free : Addr → Prop} {As : List Value} {mc ms : Nat} (F : wa_fx p s m c meth args cc nL RX4 nm ret D cy) (hM : Met l yX0_firstDayAt wX0_firstDayAt rm (wa_pc (.ref (ad kd i) :: As) D cy Pre) Qc mc ms free) (hR : wa_rm rm R 2) (hz : rm.cells = mc ∧ rm.slots = ms) (hP : Pre H) (hw : wa_wd D ad C H) (he : C kd i = some (.inr (0, fs))) (hn : As.length = 1) (hst : st0 = As.reverse ++ .ref (ad kd i) :: rest) (hW : (rest.map fun v => v.category).sum ≤ 8) (hls : ls.size = nL) (hdg : decode cc pc = .ok (.invokevirtual 172, 3)) (hf : cells + mc ≤ R.cells ∧ slots + ms ≤ R.slots) : va_Run p l e R s m args below meth c H locs cells slots mc ms (F0 m pc ls st0) rest (Qc (Value.ref (ad kd i) :: As).toArray) free := wa_runVN F hM (wa_w1 qw_184) qn_132 qw_59 qw_182 qw_5 ⟨by decide, by decide, rfl⟩ hR hz hP (wa_rcv (q := (RX0, TX0, 9)) F.2.1 hw he rfl) hn hst hW hls hdg hf
theorem kX4_181 {rm : Room} {Pre : Heap → Prop} {Qc : Array Value → State → Outcome → State → Prop} {free : Addr → Prop} {As : List Value} {mc ms : Nat} (F : wa_fx p s m c meth args cc nL RX4 nm ret D cy) (hM : Met l yX4_at wX4_at rm (wa_pc As D cy Pre) Qc mc ms free) (hR : wa_rm rm R 2) (hz : rm.cells = mc ∧ rm.slots = ms) (hP : Pre H) (hn : As.length = 2) (hst : st0 = As.reverse ++ rest) (hW : (rest.map fun v => v.category).sum ≤ 8) (hls : ls.size = nL) (hdg : decode cc pc = .ok (.invokestatic 181, 3)) (hf : cells + mc ≤ R.cells ∧ slots + ms ≤ R.slots) : va_Run p l e R s m args below meth c H locs cells slots mc ms (F0 m pc ls st0) rest (Qc As.toArray) free := wa_runS F hM (wa_wS qw_376 qw_186 qw_49 qw_187) rfl ⟨by decide, by decide, rfl⟩ hR hz hP hn hst hW hls hdg hf
theorem kX4_185 {rm : Room} {Pre : Heap → Prop} {Qc : Array Value → State → Outcome → State → Prop} {free : Addr → Prop} {As : List Value} {mc ms : Nat} (F : wa_fx p s m c meth args cc nL RX4 nm ret D cy) (hM : Met l yX0_arriveAt wX0_arriveAt rm (wa_pc (.ref (ad kd i) :: As) D cy Pre) Qc mc ms free) (hR : wa_rm rm R 3) (hz : rm.cells = mc ∧ rm.slots = ms) (hP : Pre H) (hw : wa_wd D ad C H) (he : C kd i = some (.inr (0, fs))) (hn : As.length = 2) (hst : st0 = As.reverse ++ .ref (ad kd i) :: rest) (hW : (rest.map fun v => v.category).sum ≤ 8) (hls : ls.size = nL) (hdg : decode cc pc = .ok (.invokevirtual 185, 3)) (hf : cells + mc ≤ R.cells ∧ slots + ms ≤ R.slots) : va_Run p l e R s m args below meth c H locs cells slots mc ms (F0 m pc ls st0) rest (Qc (Value.ref (ad kd i) :: As).toArray) free := wa_runVN F hM (wa_w1 qw_549) qn_498 qw_59 qw_548 qw_26 ⟨by decide, by decide, rfl⟩ hR hz hP (wa_rcv (q := (RX0, TX0, 9)) F.2.1 hw he rfl) hn hst hW hls hdg hf
theorem kX4_195 {rm : Room} {Pre : Heap → Prop} {Qc : Array Value → State → Outcome → State → Prop} {free : Addr → Prop} {As : List Value} {mc ms : Nat} (F : wa_fx p s m c meth args cc nL RX4 nm ret D cy) (hM : Met l yX4_mustGo wX4_mustGo rm (wa_pc (.ref (ad kd i) :: As) D cy Pre) Qc mc ms free) (hR : wa_rm rm R 2) (hz : rm.cells = mc ∧ rm.slots = ms) (hP : Pre H) (hw : wa_wd D ad C H) (he : C kd i = some (.inr (4, fs))) (hn : As.length = 1) (hst : st0 = As.reverse ++ .ref (ad kd i) :: rest) (hW : (rest.map fun v => v.category).sum ≤ 8) (hls : ls.size = nL) (hdg : decode cc pc = .ok (.invokevirtual 195, 3)) (hf : cells + mc ≤ R.cells ∧ slots + ms ≤ R.slots) : va_Run p l e R s m args below meth c H locs cells slots mc ms (F0 m pc ls st0) rest (Qc (Value.ref (ad kd i) :: As).toArray) free := wa_runV F hM (wa_wV qw_567 qw_569 qw_27 qw_49 qw_570) ⟨by decide, by decide, rfl⟩ hR hz hP (wa_rcv (q := (RX4, TX4, 17)) F.2.1 hw he rfl) hn hst hW hls hdg hf
theorem kX4_199 {rm : Room} {Pre : Heap → Prop} {Qc : Array Value → State → Outcome → State → Prop} {free : Addr → Prop} {As : List Value} {mc ms : Nat} (F : wa_fx p s m c meth args cc nL RX4 nm ret D cy) (hM : Met l yX4_isTooOld wX4_isTooOld rm (wa_pc (.ref (ad kd i) :: As) D cy Pre) Qc mc ms free) (hR : wa_rm rm R 2) (hz : rm.cells = mc ∧ rm.slots = ms) (hP : Pre H) (hw : wa_wd D ad C H) (he : C kd i = some (.inr (4, fs))) (hn : As.length = 1) (hst : st0 = As.reverse ++ .ref (ad kd i) :: rest) (hW : (rest.map fun v => v.category).sum ≤ 8) (hls : ls.size = nL) (hdg : decode cc pc = .ok (.invokevirtual 199, 3)) (hf : cells + mc ≤ R.cells ∧ slots + ms ≤ R.slots) : va_Run p l e R s m args below meth c H locs cells slots mc ms (F0 m pc ls st0) rest (Qc (Value.ref (ad kd i) :: As).toArray) free := wa_runV F hM (wa_wV qw_168 qw_170 qw_2 qw_49 qw_171) ⟨by decide, by decide, rfl⟩ hR hz hP (wa_rcv (q := (RX4, TX4, 17)) F.2.1 hw he rfl) hn hst hW hls hdg hf
theorem kX4_204 {rm : Room} {Pre : Heap → Prop} {Qc : Array Value → State → Outcome → State → Prop} {free : Addr → Prop} {As : List Value} {mc ms : Nat} (F : wa_fx p s m c meth args cc nL RX4 nm ret D cy) (hM : Met l yX4_bakeFor wX4_bakeFor rm (wa_pc (.ref (ad kd i) :: As) D cy Pre) Qc mc ms free) (hR : wa_rm rm R 6) (hz : rm.cells = mc ∧ rm.slots = ms) (hP : Pre H) (hw : wa_wd D ad C H) (he : C kd i = some (.inr (4, fs))) (hn : As.length = 3) (hst : st0 = As.reverse ++ .ref (ad kd i) :: rest) (hW : (rest.map fun v => v.category).sum ≤ 8) (hls : ls.size = nL) (hdg : decode cc pc = .ok (.invokevirtual 204, 3)) (hf : cells + mc ≤ R.cells ∧ slots + ms ≤ R.slots) : va_Run p l e R s m args below meth c H locs cells slots mc ms (F0 m pc ls st0) rest (Qc (Value.ref (ad kd i) :: As).toArray) free := wa_runV F hM (wa_wV qw_172 qw_174 qw_3 qw_49 qw_175) ⟨by decide, by decide, rfl⟩ hR hz hP (wa_rcv (q := (RX4, TX4, 17)) F.2.1 hw he rfl) hn hst hW hls hdg hf
theorem kX4_217 {rm : Room} {Pre : Heap → Prop} {Qc : Array Value → State → Outcome → State → Prop} {free : Addr → Prop} {As : List Value} {mc ms : Nat} (F : wa_fx p s m c meth args cc nL RX4 nm ret D cy) (hM : Met l yX4_runningAt wX4_runningAt rm (wa_pc (.ref (ad kd i) :: As) D cy Pre) Qc mc ms free) (hR : wa_rm rm R 3) (hz : rm.cells = mc ∧ rm.slots = ms) (hP : Pre H) (hw : wa_wd D ad C H) (he : C kd i = some (.inr (4, fs))) (hn : As.length = 1) (hst : st0 = As.reverse ++ .ref (ad kd i) :: rest) (hW : (rest.map fun v => v.category).sum ≤ 8) (hls : ls.size = nL) (hdg : decode cc pc = .ok (.invokevirtual 217, 3)) (hf : cells + mc ≤ R.cells ∧ slots + ms ≤ R.slots) : va_Run p l e R s m args below meth c H locs cells slots mc ms (F0 m pc ls st0) rest (Qc (Value.ref (ad kd i) :: As).toArray) free := wa_runV F hM (wa_wV qw_620 qw_622 qw_28 qw_49 qw_623) ⟨by decide, by decide, rfl⟩ hR hz hP (wa_rcv (q := (RX4, TX4, 17)) F.2.1 hw he rfl) hn hst hW hls hdg hf
theorem kX4_234 {rm : Room} {Pre : Heap → Prop} {Qc : Array Value → State → Outcome → State → Prop} {free : Addr → Prop} {As : List Value} {mc ms : Nat} (F : wa_fx p s m c meth args cc nL RX4 nm ret D cy) (hM : Met l yX4_machineAt wX4_machineAt rm (wa_pc (.ref (ad kd i) :: As) D cy Pre) Qc mc ms free) (hR : wa_rm rm R 3) (hz : rm.cells = mc ∧ rm.slots = ms) (hP : Pre H) (hw : wa_wd D ad C H) (he : C kd i = some (.inr (4, fs))) (hn : As.length = 1) (hst : st0 = As.reverse ++ .ref (ad kd i) :: rest) (hW : (rest.map fun v => v.category).sum ≤ 8) (hls : ls.size = nL) (hdg : decode cc pc = .ok (.invokevirtual 234, 3)) (hf : cells + mc ≤ R.cells ∧ slots + ms ≤ R.slots) : va_Run p l e R s m args below meth c H locs cells slots mc ms (F0 m pc ls st0) rest (Qc (Value.ref (ad kd i) :: As).toArray) free := wa_runV F hM (wa_wV qw_624 qw_626 qw_29 qw_49 qw_627) ⟨by decide, by decide, rfl⟩ hR hz hP (wa_rcv (q := (RX4, TX4, 17)) F.2.1 hw he rfl) hn hst hW hls hdg hf
theorem kX4_237 {rm : Room} {Pre : Heap → Prop} {Qc : Array Value → State → Outcome → State → Prop} {free : Addr → Prop} {As : List Value} {mc ms : Nat} (F : wa_fx p s m c meth args cc nL RX4 nm ret D cy) (hM : Met l yX4_fillWaiting wX4_fillWaiting rm (wa_pc (.ref (ad kd i) :: As) D cy Pre) Qc mc ms free) (hR : wa_rm rm R 6) (hz : rm.cells = mc ∧ rm.slots = ms) (hP : Pre H) (hw : wa_wd D ad C H) (he : C kd i = some (.inr (4, fs))) (hn : As.length = 0) (hst : st0 = As.reverse ++ .ref (ad kd i) :: rest) (hW : (rest.map fun v => v.category).sum ≤ 8) (hls : ls.size = nL) (hdg : decode cc pc = .ok (.invokevirtual 237, 3)) (hf : cells + mc ≤ R.cells ∧ slots + ms ≤ R.slots) : va_Run p l e R s m args below meth c H locs cells slots mc ms (F0 m pc ls st0) rest (Qc (Value.ref (ad kd i) :: As).toArray) free := wa_runV F hM (wa_wV qw_160 qw_162 qw_0 qw_49 qw_163) ⟨by decide, by decide, rfl⟩ hR hz hP (wa_rcv (q := (RX4, TX4, 17)) F.2.1 hw he rfl) hn hst hW hls hdg hf
theorem kX4_250 {rm : Room} {Pre : Heap → Prop} {Qc : Array Value → State → Outcome → State → Prop} {free : Addr → Prop} {As : List Value} {mc ms : Nat} (F : wa_fx p s m c meth args cc nL RX4 nm ret D cy) (hM : Met l yX2_find wX2_find rm (wa_pc (.ref (ad kd i) :: As) D cy Pre) Qc mc ms free) (hR : wa_rm rm R 5) (hz : rm.cells = mc ∧ rm.slots = ms) (hP : Pre H) (hw : wa_wd D ad C H) (he : C kd i = some (.inr (2, fs))) (hn : As.length = 3) (hst : st0 = As.reverse ++ .ref (ad kd i) :: rest) (hW : (rest.map fun v => v.category).sum ≤ 8) (hls : ls.size = nL) (hdg : decode cc pc = .ok (.invokevirtual 250, 3)) (hf : cells + mc ≤ R.cells ∧ slots + ms ≤ R.slots) : va_Run p l e R s m args below meth c H locs cells slots mc ms (F0 m pc ls st0) rest (Qc (Value.ref (ad kd i) :: As).toArray) free := wa_runVN F hM (wa_w1 qw_380) qn_329 qw_50 qw_379 qw_12 ⟨by decide, by decide, rfl⟩ hR hz hP (wa_rcv (q := (RX2, TX2, 4)) F.2.1 hw he rfl) hn hst hW hls hdg hf
theorem kX4_254 {rm : Room} {Pre : Heap → Prop} {Qc : Array Value → State → Outcome → State → Prop} {free : Addr → Prop} {As : List Value} {mc ms : Nat} (F : wa_fx p s m c meth args cc nL RX4 nm ret D cy) (hM : Met l yX2_findOrMake wX2_findOrMake rm (wa_pc (.ref (ad kd i) :: As) D cy Pre) Qc mc ms free) (hR : wa_rm rm R 6) (hz : rm.cells = mc ∧ rm.slots = ms) (hP : Pre H) (hw : wa_wd D ad C H) (he : C kd i = some (.inr (2, fs))) (hn : As.length = 3) (hst : st0 = As.reverse ++ .ref (ad kd i) :: rest) (hW : (rest.map fun v => v.category).sum ≤ 8) (hls : ls.size = nL) (hdg : decode cc pc = .ok (.invokevirtual 254, 3)) (hf : cells + mc ≤ R.cells ∧ slots + ms ≤ R.slots) : va_Run p l e R s m args below meth c H locs cells slots mc ms (F0 m pc ls st0) rest (Qc (Value.ref (ad kd i) :: As).toArray) free := wa_runVN F hM (wa_w1 qw_398) qn_347 qw_50 qw_397 qw_16 ⟨by decide, by decide, rfl⟩ hR hz hP (wa_rcv (q := (RX2, TX2, 4)) F.2.1 hw he rfl) hn hst hW hls hdg hf
theorem kX4_257 {rm : Room} {Pre : Heap → Prop} {Qc : Array Value → State → Outcome → State → Prop} {free : Addr → Prop} {As : List Value} {mc ms : Nat} (F : wa_fx p s m c meth args cc nL RX4 nm ret D cy) (hM : Met l yX4_beginOf wX4_beginOf rm (wa_pc As D cy Pre) Qc mc ms free) (hR : wa_rm rm R 1) (hz : rm.cells = mc ∧ rm.slots = ms) (hP : Pre H) (hn : As.length = 1) (hst : st0 = As.reverse ++ rest) (hW : (rest.map fun v => v.category).sum ≤ 8) (hls : ls.size = nL) (hdg : decode cc pc = .ok (.invokestatic 257, 3)) (hf : cells + mc ≤ R.cells ∧ slots + ms ≤ R.slots) : va_Run p l e R s m args below meth c H locs cells slots mc ms (F0 m pc ls st0) rest (Qc As.toArray) free := wa_runS F hM (wa_wS qw_369 qw_370 qw_49 qw_371) rfl ⟨by decide, by decide, rfl⟩ hR hz hP hn hst hW hls hdg hf
theorem kX4_261 {rm : Room} {Pre : Heap → Prop} {Qc : Array Value → State → Outcome → State → Prop} {free : Addr → Prop} {As : List Value} {mc ms : Nat} (F : wa_fx p s m c meth args cc nL RX4 nm ret D cy) (hM : Met l yX4_topFrom wX4_topFrom rm (wa_pc (.ref (ad kd i) :: As) D cy Pre) Qc mc ms free) (hR : wa_rm rm R 6) (hz : rm.cells = mc ∧ rm.slots = ms) (hP : Pre H) (hw : wa_wd D ad C H) (he : C kd i = some (.inr (4, fs))) (hn : As.length = 2) (hst : st0 = As.reverse ++ .ref (ad kd i) :: rest) (hW : (rest.map fun v => v.category).sum ≤ 8) (hls : ls.size = nL) (hdg : decode cc pc = .ok (.invokevirtual 261, 3)) (hf : cells + mc ≤ R.cells ∧ slots + ms ≤ R.slots) : va_Run p l e R s m args below meth c H locs cells slots mc ms (F0 m pc ls st0) rest (Qc (Value.ref (ad kd i) :: As).toArray) free := wa_runV F hM (wa_wV qw_372 qw_374 qw_11 qw_49 qw_375) ⟨by decide, by decide, rfl⟩ hR hz hP (wa_rcv (q := (RX4, TX4, 17)) F.2.1 hw he rfl) hn hst hW hls hdg hf
theorem kX4_265 {rm : Room} {Pre : Heap → Prop} {Qc : Array Value → State → Outcome → State → Prop} {free : Addr → Prop} {As : List Value} {mc ms : Nat} (F : wa_fx p s m c meth args cc nL RX4 nm ret D cy) (hM : Met l yX4_makeTopFrom wX4_makeTopFrom rm (wa_pc (.ref (ad kd i) :: As) D cy Pre) Qc mc ms free) (hR : wa_rm rm R 6) (hz : rm.cells = mc ∧ rm.slots = ms) (hP : Pre H) (hw : wa_wd D ad C H) (he : C kd i = some (.inr (4, fs))) (hn : As.length = 2) (hst : st0 = As.reverse ++ .ref (ad kd i) :: rest) (hW : (rest.map fun v => v.category).sum ≤ 8) (hls : ls.size = nL) (hdg : decode cc pc = .ok (.invokevirtual 265, 3)) (hf : cells + mc ≤ R.cells ∧ slots + ms ≤ R.slots) : va_Run p l e R s m args below meth c H locs cells slots mc ms (F0 m pc ls st0) rest (Qc (Value.ref (ad kd i) :: As).toArray) free := wa_runV F hM (wa_wV qw_391 qw_393 qw_15 qw_49 qw_394) ⟨by decide, by decide, rfl⟩ hR hz hP (wa_rcv (q := (RX4, TX4, 17)) F.2.1 hw he rfl) hn hst hW hls hdg hf
theorem kX4_274 {rm : Room} {Pre : Heap → Prop} {Qc : Array Value → State → Outcome → State → Prop} {free : Addr → Prop} {As : List Value} {mc ms : Nat} (F : wa_fx p s m c meth args cc nL RX4 nm ret D cy) (hM : Met l yX4_lineUpChildren wX4_lineUpChildren rm (wa_pc (.ref (ad kd i) :: As) D cy Pre) Qc mc ms free) (hR : wa_rm rm R 8) (hz : rm.cells = mc ∧ rm.slots = ms) (hP : Pre H) (hw : wa_wd D ad C H) (he : C kd i = some (.inr (4, fs))) (hn : As.length = 2) (hst : st0 = As.reverse ++ .ref (ad kd i) :: rest) (hW : (rest.map fun v => v.category).sum ≤ 8) (hls : ls.size = nL) (hdg : decode cc pc = .ok (.invokevirtual 274, 3)) (hf : cells + mc ≤ R.cells ∧ slots + ms ≤ R.slots) : va_Run p l e R s m args below meth c H locs cells slots mc ms (F0 m pc ls st0) rest (Qc (Value.ref (ad kd i) :: As).toArray) free := wa_runV F hM (wa_wV qw_455 qw_457 qw_19 qw_49 qw_458) ⟨by decide, by decide, rfl⟩ hR hz hP (wa_rcv (q := (RX4, TX4, 17)) F.2.1 hw he rfl) hn hst hW hls hdg hf
theorem kX4_278 {rm : Room} {Pre : Heap → Prop} {Qc : Array Value → State → Outcome → State → Prop} {free : Addr → Prop} {As : List Value} {mc ms : Nat} (F : wa_fx p s m c meth args cc nL RX4 nm ret D cy) (hM : Met l yX2_fillChain wX2_fillChain rm (wa_pc (.ref (ad kd i) :: As) D cy Pre) Qc mc ms free) (hR : wa_rm rm R 5) (hz : rm.cells = mc ∧ rm.slots = ms) (hP : Pre H) (hw : wa_wd D ad C H) (he : C kd i = some (.inr (2, fs))) (hn : As.length = 2) (hst : st0 = As.reverse ++ .ref (ad kd i) :: rest) (hW : (rest.map fun v => v.category).sum ≤ 8) (hls : ls.size = nL) (hdg : decode cc pc = .ok (.invokevirtual 278, 3)) (hf : cells + mc ≤ R.cells ∧ slots + ms ≤ R.slots) : va_Run p l e R s m args below meth c H locs cells slots mc ms (F0 m pc ls st0) rest (Qc (Value.ref (ad kd i) :: As).toArray) free := wa_runVN F hM (wa_w1 qw_480) qn_429 qw_50 qw_479 qw_21 ⟨by decide, by decide, rfl⟩ hR hz hP (wa_rcv (q := (RX2, TX2, 4)) F.2.1 hw he rfl) hn hst hW hls hdg hf
theorem kX4_282 {rm : Room} {Pre : Heap → Prop} {Qc : Array Value → State → Outcome → State → Prop} {free : Addr → Prop} {As : List Value} {mc ms : Nat} (F : wa_fx p s m c meth args cc nL RX4 nm ret D cy) (hM : Met l yX4_fillForefathers wX4_fillForefathers rm (wa_pc (.ref (ad kd i) :: As) D cy Pre) Qc mc ms free) (hR : wa_rm rm R 4) (hz : rm.cells = mc ∧ rm.slots = ms) (hP : Pre H) (hw : wa_wd D ad C H) (he : C kd i = some (.inr (4, fs))) (hn : As.length = 1) (hst : st0 = As.reverse ++ .ref (ad kd i) :: rest) (hW : (rest.map fun v => v.category).sum ≤ 8) (hls : ls.size = nL) (hdg : decode cc pc = .ok (.invokevirtual 282, 3)) (hf : cells + mc ≤ R.cells ∧ slots + ms ≤ R.slots) : va_Run p l e R s m args below meth c H locs cells slots mc ms (F0 m pc ls st0) rest (Qc (Value.ref (ad kd i) :: As).toArray) free := wa_runV F hM (wa_wV qw_481 qw_483 qw_22 qw_49 qw_484) ⟨by decide, by decide, rfl⟩ hR hz hP (wa_rcv (q := (RX4, TX4, 17)) F.2.1 hw he rfl) hn hst hW hls hdg hf
theorem kX4_285 {rm : Room} {Pre : Heap → Prop} {Qc : Array Value → State → Outcome → State → Prop} {free : Addr → Prop} {As : List Value} {mc ms : Nat} (F : wa_fx p s m c meth args cc nL RX4 nm ret D cy) (hM : Met l yX4_followSteps wX4_followSteps rm (wa_pc (.ref (ad kd i) :: As) D cy Pre) Qc mc ms free) (hR : wa_rm rm R 7) (hz : rm.cells = mc ∧ rm.slots = ms) (hP : Pre H) (hw : wa_wd D ad C H) (he : C kd i = some (.inr (4, fs))) (hn : As.length = 3) (hst : st0 = As.reverse ++ .ref (ad kd i) :: rest) (hW : (rest.map fun v => v.category).sum ≤ 8) (hls : ls.size = nL) (hdg : decode cc pc = .ok (.invokevirtual 285, 3)) (hf : cells + mc ≤ R.cells ∧ slots + ms ≤ R.slots) : va_Run p l e R s m args below meth c H locs cells slots mc ms (F0 m pc ls st0) rest (Qc (Value.ref (ad kd i) :: As).toArray) free := wa_runV F hM (wa_wV qw_485 qw_487 qw_23 qw_49 qw_488) ⟨by decide, by decide, rfl⟩ hR hz hP (wa_rcv (q := (RX4, TX4, 17)) F.2.1 hw he rfl) hn hst hW hls hdg hf
theorem kX4_289 {rm : Room} {Pre : Heap → Prop} {Qc : Array Value → State → Outcome → State → Prop} {free : Addr → Prop} {As : List Value} {mc ms : Nat} (F : wa_fx p s m c meth args cc nL RX4 nm ret D cy) (hM : Met l yX2_isOf wX2_isOf rm (wa_pc (.ref (ad kd i) :: As) D cy Pre) Qc mc ms free) (hR : wa_rm rm R 4) (hz : rm.cells = mc ∧ rm.slots = ms) (hP : Pre H) (hw : wa_wd D ad C H) (he : C kd i = some (.inr (2, fs))) (hn : As.length = 3) (hst : st0 = As.reverse ++ .ref (ad kd i) :: rest) (hW : (rest.map fun v => v.category).sum ≤ 8) (hls : ls.size = nL) (hdg : decode cc pc = .ok (.invokevirtual 289, 3)) (hf : cells + mc ≤ R.cells ∧ slots + ms ≤ R.slots) : va_Run p l e R s m args below meth c H locs cells slots mc ms (F0 m pc ls st0) rest (Qc (Value.ref (ad kd i) :: As).toArray) free := wa_runVN F hM (wa_w1 qw_384) qn_441 qw_50 qw_383 qw_13 ⟨by decide, by decide, rfl⟩ hR hz hP (wa_rcv (q := (RX2, TX2, 4)) F.2.1 hw he rfl) hn hst hW hls hdg hf
theorem kX4_303 {rm : Room} {Pre : Heap → Prop} {Qc : Array Value → State → Outcome → State → Prop} {free : Addr → Prop} {As : List Value} {mc ms : Nat} (F : wa_fx p s m c meth args cc nL RX4 nm ret D cy) (hM : Met l yX4_canStart wX4_canStart rm (wa_pc (.ref (ad kd i) :: As) D cy Pre) Qc mc ms free) (hR : wa_rm rm R 6) (hz : rm.cells = mc ∧ rm.slots = ms) (hP : Pre H) (hw : wa_wd D ad C H) (he : C kd i = some (.inr (4, fs))) (hn : As.length = 3) (hst : st0 = As.reverse ++ .ref (ad kd i) :: rest) (hW : (rest.map fun v => v.category).sum ≤ 8) (hls : ls.size = nL) (hdg : decode cc pc = .ok (.invokevirtual 303, 3)) (hf : cells + mc ≤ R.cells ∧ slots + ms ≤ R.slots) : va_Run p l e R s m args below meth c H locs cells slots mc ms (F0 m pc ls st0) rest (Qc (Value.ref (ad kd i) :: As).toArray) free := wa_runV F hM (wa_wV qw_176 qw_178 qw_4 qw_49 qw_179) ⟨by decide, by decide, rfl⟩ hR hz hP (wa_rcv (q := (RX4, TX4, 17)) F.2.1 hw he rfl) hn hst hW hls hdg hf
theorem kX4_307 {rm : Room} {Pre : Heap → Prop} {Qc : Array Value → State → Outcome → State → Prop} {free : Addr → Prop} {As : List Value} {mc ms : Nat} (F : wa_fx p s m c meth args cc nL RX4 nm ret D cy) (hM : Met l yX4_mustRenew wX4_mustRenew rm (wa_pc (.ref (ad kd i) :: As) D cy Pre) Qc mc ms free) (hR : wa_rm rm R 3) (hz : rm.cells = mc ∧ rm.slots = ms) (hP : Pre H) (hw : wa_wd D ad C H) (he : C kd i = some (.inr (4, fs))) (hn : As.length = 1) (hst : st0 = As.reverse ++ .ref (ad kd i) :: rest) (hW : (rest.map fun v => v.category).sum ≤ 8) (hls : ls.size = nL) (hdg : decode cc pc = .ok (.invokevirtual 307, 3)) (hf : cells + mc ≤ R.cells ∧ slots + ms ≤ R.slots) : va_Run p l e R s m args below meth c H locs cells slots mc ms (F0 m pc ls st0) rest (Qc (Value.ref (ad kd i) :: As).toArray) free := wa_runV F hM (wa_wV qw_164 qw_166 qw_1 qw_49 qw_167) ⟨by decide, by decide, rfl⟩ hR hz hP (wa_rcv (q := (RX4, TX4, 17)) F.2.1 hw he rfl) hn hst hW hls hdg hf
theorem kX4_311 {rm : Room} {Pre : Heap → Prop} {Qc : Array Value → State → Outcome → State → Prop} {free : Addr → Prop} {As : List Value} {mc ms : Nat} (F : wa_fx p s m c meth args cc nL RX4 nm ret D cy) (hM : Met l yX4_insertWaiting wX4_insertWaiting rm (wa_pc (.ref (ad kd i) :: As) D cy Pre) Qc mc ms free) (hR : wa_rm rm R 4) (hz : rm.cells = mc ∧ rm.slots = ms) (hP : Pre H) (hw : wa_wd D ad C H) (he : C kd i = some (.inr (4, fs))) (hn : As.length = 2) (hst : st0 = As.reverse ++ .ref (ad kd i) :: rest) (hW : (rest.map fun v => v.category).sum ≤ 8) (hls : ls.size = nL) (hdg : decode cc pc = .ok (.invokevirtual 311, 3)) (hf : cells + mc ≤ R.cells ∧ slots + ms ≤ R.slots) : va_Run p l e R s m args below meth c H locs cells slots mc ms (F0 m pc ls st0) rest (Qc (Value.ref (ad kd i) :: As).toArray) free := wa_runV F hM (wa_wV qw_188 qw_190 qw_6 qw_49 qw_191) ⟨by decide, by decide, rfl⟩ hR hz hP (wa_rcv (q := (RX4, TX4, 17)) F.2.1 hw he rfl) hn hst hW hls hdg hf
theorem kX4_315 {rm : Room} {Pre : Heap → Prop} {Qc : Array Value → State → Outcome → State → Prop} {free : Addr → Prop} {As : List Value} {mc ms : Nat} (F : wa_fx p s m c meth args cc nL RX4 nm ret D cy) (hM : Met l yX4_isAhead wX4_isAhead rm (wa_pc As D cy Pre) Qc mc ms free) (hR : wa_rm rm R 2) (hz : rm.cells = mc ∧ rm.slots = ms) (hP : Pre H) (hn : As.length = 2) (hst : st0 = As.reverse ++ rest) (hW : (rest.map fun v => v.category).sum ≤ 8) (hls : ls.size = nL) (hdg : decode cc pc = .ok (.invokestatic 315, 3)) (hf : cells + mc ≤ R.cells ∧ slots + ms ≤ R.slots) : va_Run p l e R s m args below meth c H locs cells slots mc ms (F0 m pc ls st0) rest (Qc As.toArray) free := wa_runS F hM (wa_wS qw_192 qw_193 qw_49 qw_194) rfl ⟨by decide, by decide, rfl⟩ hR hz hP hn hst hW hls hdg hf
theorem kX5_96 {rm : Room} {Pre : Heap → Prop} {Qc : Array Value → State → Outcome → State → Prop} {free : Addr → Prop} {As : List Value} {mc ms : Nat} (F : wa_fx p s m c meth args cc nL RX5 nm ret D cy) (hM : Met l yX5_isIn wX5_isIn rm (wa_pc As D cy Pre) Qc mc ms free) (hR : wa_rm rm R 3) (hz : rm.cells = mc ∧ rm.slots = ms) (hP : Pre H) (hn : As.length = 3) (hst : st0 = As.reverse ++ rest) (hW : (rest.map fun v => v.category).sum ≤ 8) (hls : ls.size = nL) (hdg : decode cc pc = .ok (.invokestatic 96, 3)) (hf : cells + mc ≤ R.cells ∧ slots + ms ≤ R.slots) : va_Run p l e R s m args below meth c H locs cells slots mc ms (F0 m pc ls st0) rest (Qc As.toArray) free := wa_runS F hM (wa_wS qw_765 qw_766 qw_51 qw_767) rfl ⟨by decide, by decide, rfl⟩ hR hz hP hn hst hW hls hdg hf
theorem kX5_103 {rm : Room} {Pre : Heap → Prop} {Qc : Array Value → State → Outcome → State → Prop} {free : Addr → Prop} {As : List Value} {mc ms : Nat} (F : wa_fx p s m c meth args cc nL RX5 nm ret D cy) (hM : Met l yX5_isFine wX5_isFine rm (wa_pc (.ref (ad kd i) :: As) D cy Pre) Qc mc ms free) (hR : wa_rm rm R 2) (hz : rm.cells = mc ∧ rm.slots = ms) (hP : Pre H) (hw : wa_wd D ad C H) (he : C kd i = some (.inr (5, fs))) (hn : As.length = 1) (hst : st0 = As.reverse ++ .ref (ad kd i) :: rest) (hW : (rest.map fun v => v.category).sum ≤ 8) (hls : ls.size = nL) (hdg : decode cc pc = .ok (.invokevirtual 103, 3)) (hf : cells + mc ≤ R.cells ∧ slots + ms ≤ R.slots) : va_Run p l e R s m args below meth c H locs cells slots mc ms (F0 m pc ls st0) rest (Qc (Value.ref (ad kd i) :: As).toArray) free := wa_runV F hM (wa_wV qw_768 qw_770 qw_30 qw_51 qw_771) ⟨by decide, by decide, rfl⟩ hR hz hP (wa_rcv (q := (RX5, TX5, 32)) F.2.1 hw he rfl) hn hst hW hls hdg hf
theorem kX5_107 {rm : Room} {Pre : Heap → Prop} {Qc : Array Value → State → Outcome → State → Prop} {free : Addr → Prop} {As : List Value} {mc ms : Nat} (F : wa_fx p s m c meth args cc nL RX5 nm ret D cy) (hM : Met l yX5_isImage wX5_isImage rm (wa_pc (.ref (ad kd i) :: As) D cy Pre) Qc mc ms free) (hR : wa_rm rm R 2) (hz : rm.cells = mc ∧ rm.slots = ms) (hP : Pre H) (hw : wa_wd D ad C H) (he : C kd i = some (.inr (5, fs))) (hn : As.length = 1) (hst : st0 = As.reverse ++ .ref (ad kd i) :: rest) (hW : (rest.map fun v => v.category).sum ≤ 8) (hls : ls.size = nL) (hdg : decode cc pc = .ok (.invokevirtual 107, 3)) (hf : cells + mc ≤ R.cells ∧ slots + ms ≤ R.slots) : va_Run p l e R s m args below meth c H locs cells slots mc ms (F0 m pc ls st0) rest (Qc (Value.ref (ad kd i) :: As).toArray) free := wa_runV F hM (wa_wV qw_776 qw_778 qw_31 qw_51 qw_779) ⟨by decide, by decide, rfl⟩ hR hz hP (wa_rcv (q := (RX5, TX5, 32)) F.2.1 hw he rfl) hn hst hW hls hdg hf
theorem kX5_113 {rm : Room} {Pre : Heap → Prop} {Qc : Array Value → State → Outcome → State → Prop} {free : Addr → Prop} {As : List Value} {mc ms : Nat} (F : wa_fx p s m c meth args cc nL RX5 nm ret D cy) (hM : Met l yX5_baseOf wX5_baseOf rm (wa_pc (.ref (ad kd i) :: As) D cy Pre) Qc mc ms free) (hR : wa_rm rm R 2) (hz : rm.cells = mc ∧ rm.slots = ms) (hP : Pre H) (hw : wa_wd D ad C H) (he : C kd i = some (.inr (5, fs))) (hn : As.length = 1) (hst : st0 = As.reverse ++ .ref (ad kd i) :: rest) (hW : (rest.map fun v => v.category).sum ≤ 8) (hls : ls.size = nL) (hdg : decode cc pc = .ok (.invokevirtual 113, 3)) (hf : cells + mc ≤ R.cells ∧ slots + ms ≤ R.slots) : va_Run p l e R s m args below meth c H locs cells slots mc ms (F0 m pc ls st0) rest (Qc (Value.ref (ad kd i) :: As).toArray) free := wa_runV F hM (wa_wV qw_800 qw_802 qw_35 qw_51 qw_803) ⟨by decide, by decide, rfl⟩ hR hz hP (wa_rcv (q := (RX5, TX5, 32)) F.2.1 hw he rfl) hn hst hW hls hdg hf
theorem kX5_117 {rm : Room} {Pre : Heap → Prop} {Qc : Array Value → State → Outcome → State → Prop} {free : Addr → Prop} {As : List Value} {mc ms : Nat} (F : wa_fx p s m c meth args cc nL RX5 nm ret D cy) (hM : Met l yX5_find wX5_find rm (wa_pc (.ref (ad kd i) :: As) D cy Pre) Qc mc ms free) (hR : wa_rm rm R 5) (hz : rm.cells = mc ∧ rm.slots = ms) (hP : Pre H) (hw : wa_wd D ad C H) (he : C kd i = some (.inr (5, fs))) (hn : As.length = 3) (hst : st0 = As.reverse ++ .ref (ad kd i) :: rest) (hW : (rest.map fun v => v.category).sum ≤ 8) (hls : ls.size = nL) (hdg : decode cc pc = .ok (.invokevirtual 117, 3)) (hf : cells + mc ≤ R.cells ∧ slots + ms ≤ R.slots) : va_Run p l e R s m args below meth c H locs cells slots mc ms (F0 m pc ls st0) rest (Qc (Value.ref (ad kd i) :: As).toArray) free := wa_runV F hM (wa_wV qw_804 qw_806 qw_36 qw_51 qw_807) ⟨by decide, by decide, rfl⟩ hR hz hP (wa_rcv (q := (RX5, TX5, 32)) F.2.1 hw he rfl) hn hst hW hls hdg hf
theorem kX5_121 {rm : Room} {Pre : Heap → Prop} {Qc : Array Value → State → Outcome → State → Prop} {free : Addr → Prop} {As : List Value} {mc ms : Nat} (F : wa_fx p s m c meth args cc nL RX5 nm ret D cy) (hM : Met l yX5_topNow wX5_topNow rm (wa_pc (.ref (ad kd i) :: As) D cy Pre) Qc mc ms free) (hR : wa_rm rm R 4) (hz : rm.cells = mc ∧ rm.slots = ms) (hP : Pre H) (hw : wa_wd D ad C H) (he : C kd i = some (.inr (5, fs))) (hn : As.length = 1) (hst : st0 = As.reverse ++ .ref (ad kd i) :: rest) (hW : (rest.map fun v => v.category).sum ≤ 8) (hls : ls.size = nL) (hdg : decode cc pc = .ok (.invokevirtual 121, 3)) (hf : cells + mc ≤ R.cells ∧ slots + ms ≤ R.slots) : va_Run p l e R s m args below meth c H locs cells slots mc ms (F0 m pc ls st0) rest (Qc (Value.ref (ad kd i) :: As).toArray) free := wa_runV F hM (wa_wV qw_796 qw_798 qw_34 qw_51 qw_799) ⟨by decide, by decide, rfl⟩ hR hz hP (wa_rcv (q := (RX5, TX5, 32)) F.2.1 hw he rfl) hn hst hW hls hdg hf
theorem kX5_124 {rm : Room} {Pre : Heap → Prop} {Qc : Array Value → State → Outcome → State → Prop} {free : Addr → Prop} {As : List Value} {mc ms : Nat} (F : wa_fx p s m c meth args cc nL RX5 nm ret D cy) (hM : Met l yX5_hasBase wX5_hasBase rm (wa_pc (.ref (ad kd i) :: As) D cy Pre) Qc mc ms free) (hR : wa_rm rm R 2) (hz : rm.cells = mc ∧ rm.slots = ms) (hP : Pre H) (hw : wa_wd D ad C H) (he : C kd i = some (.inr (5, fs))) (hn : As.length = 1) (hst : st0 = As.reverse ++ .ref (ad kd i) :: rest) (hW : (rest.map fun v => v.category).sum ≤ 8) (hls : ls.size = nL) (hdg : decode cc pc = .ok (.invokevirtual 124, 3)) (hf : cells + mc ≤ R.cells ∧ slots + ms ≤ R.slots) : va_Run p l e R s m args below meth c H locs cells slots mc ms (F0 m pc ls st0) rest (Qc (Value.ref (ad kd i) :: As).toArray) free := wa_runV F hM (wa_wV qw_788 qw_790 qw_32 qw_51 qw_791) ⟨by decide, by decide, rfl⟩ hR hz hP (wa_rcv (q := (RX5, TX5, 32)) F.2.1 hw he rfl) hn hst hW hls hdg hf
theorem kX5_127 {rm : Room} {Pre : Heap → Prop} {Qc : Array Value → State → Outcome → State → Prop} {free : Addr → Prop} {As : List Value} {mc ms : Nat} (F : wa_fx p s m c meth args cc nL RX5 nm ret D cy) (hM : Met l yX5_isAlike wX5_isAlike rm (wa_pc (.ref (ad kd i) :: As) D cy Pre) Qc mc ms free) (hR : wa_rm rm R 2) (hz : rm.cells = mc ∧ rm.slots = ms) (hP : Pre H) (hw : wa_wd D ad C H) (he : C kd i = some (.inr (5, fs))) (hn : As.length = 1) (hst : st0 = As.reverse ++ .ref (ad kd i) :: rest) (hW : (rest.map fun v => v.category).sum ≤ 8) (hls : ls.size = nL) (hdg : decode cc pc = .ok (.invokevirtual 127, 3)) (hf : cells + mc ≤ R.cells ∧ slots + ms ≤ R.slots) : va_Run p l e R s m args below meth c H locs cells slots mc ms (F0 m pc ls st0) rest (Qc (Value.ref (ad kd i) :: As).toArray) free := wa_runV F hM (wa_wV qw_792 qw_794 qw_33 qw_51 qw_795) ⟨by decide, by decide, rfl⟩ hR hz hP (wa_rcv (q := (RX5, TX5, 32)) F.2.1 hw he rfl) hn hst hW hls hdg hf
theorem kX5_133 {rm : Room} {Pre : Heap → Prop} {Qc : Array Value → State → Outcome → State → Prop} {free : Addr → Prop} {As : List Value} {mc ms : Nat} (F : wa_fx p s m c meth args cc nL RX5 nm ret D cy) (hM : Met l yX5_makes wX5_makes rm (wa_pc (.ref (ad kd i) :: As) D cy Pre) Qc mc ms free) (hR : wa_rm rm R 5) (hz : rm.cells = mc ∧ rm.slots = ms) (hP : Pre H) (hw : wa_wd D ad C H) (he : C kd i = some (.inr (5, fs))) (hn : As.length = 1) (hst : st0 = As.reverse ++ .ref (ad kd i) :: rest) (hW : (rest.map fun v => v.category).sum ≤ 8) (hls : ls.size = nL) (hdg : decode cc pc = .ok (.invokevirtual 133, 3)) (hf : cells + mc ≤ R.cells ∧ slots + ms ≤ R.slots) : va_Run p l e R s m args below meth c H locs cells slots mc ms (F0 m pc ls st0) rest (Qc (Value.ref (ad kd i) :: As).toArray) free := wa_runV F hM (wa_wV qw_808 qw_810 qw_37 qw_51 qw_811) ⟨by decide, by decide, rfl⟩ hR hz hP (wa_rcv (q := (RX5, TX5, 32)) F.2.1 hw he rfl) hn hst hW hls hdg hf
theorem kX5_137 {rm : Room} {Pre : Heap → Prop} {Qc : Array Value → State → Outcome → State → Prop} {free : Addr → Prop} {As : List Value} {mc ms : Nat} (F : wa_fx p s m c meth args cc nL RX5 nm ret D cy) (hM : Met l yX5_joins wX5_joins rm (wa_pc (.ref (ad kd i) :: As) D cy Pre) Qc mc ms free) (hR : wa_rm rm R 5) (hz : rm.cells = mc ∧ rm.slots = ms) (hP : Pre H) (hw : wa_wd D ad C H) (he : C kd i = some (.inr (5, fs))) (hn : As.length = 2) (hst : st0 = As.reverse ++ .ref (ad kd i) :: rest) (hW : (rest.map fun v => v.category).sum ≤ 8) (hls : ls.size = nL) (hdg : decode cc pc = .ok (.invokevirtual 137, 3)) (hf : cells + mc ≤ R.cells ∧ slots + ms ≤ R.slots) : va_Run p l e R s m args below meth c H locs cells slots mc ms (F0 m pc ls st0) rest (Qc (Value.ref (ad kd i) :: As).toArray) free := wa_runV F hM (wa_wV qw_816 qw_818 qw_38 qw_51 qw_819) ⟨by decide, by decide, rfl⟩ hR hz hP (wa_rcv (q := (RX5, TX5, 32)) F.2.1 hw he rfl) hn hst hW hls hdg hf
theorem kX5_141 {rm : Room} {Pre : Heap → Prop} {Qc : Array Value → State → Outcome → State → Prop} {free : Addr → Prop} {As : List Value} {mc ms : Nat} (F : wa_fx p s m c meth args cc nL RX5 nm ret D cy) (hM : Met l yX5_isFreshNow wX5_isFreshNow rm (wa_pc (.ref (ad kd i) :: As) D cy Pre) Qc mc ms free) (hR : wa_rm rm R 4) (hz : rm.cells = mc ∧ rm.slots = ms) (hP : Pre H) (hw : wa_wd D ad C H) (he : C kd i = some (.inr (5, fs))) (hn : As.length = 1) (hst : st0 = As.reverse ++ .ref (ad kd i) :: rest) (hW : (rest.map fun v => v.category).sum ≤ 8) (hls : ls.size = nL) (hdg : decode cc pc = .ok (.invokevirtual 141, 3)) (hf : cells + mc ≤ R.cells ∧ slots + ms ≤ R.slots) : va_Run p l e R s m args below meth c H locs cells slots mc ms (F0 m pc ls st0) rest (Qc (Value.ref (ad kd i) :: As).toArray) free := wa_runV F hM (wa_wV qw_820 qw_822 qw_39 qw_51 qw_823) ⟨by decide, by decide, rfl⟩ hR hz hP (wa_rcv (q := (RX5, TX5, 32)) F.2.1 hw he rfl) hn hst hW hls hdg hf
theorem kX5_144 {rm : Room} {Pre : Heap → Prop} {Qc : Array Value → State → Outcome → State → Prop} {free : Addr → Prop} {As : List Value} {mc ms : Nat} (F : wa_fx p s m c meth args cc nL RX5 nm ret D cy) (hM : Met l yX5_isBake wX5_isBake rm (wa_pc (.ref (ad kd i) :: As) D cy Pre) Qc mc ms free) (hR : wa_rm rm R 2) (hz : rm.cells = mc ∧ rm.slots = ms) (hP : Pre H) (hw : wa_wd D ad C H) (he : C kd i = some (.inr (5, fs))) (hn : As.length = 1) (hst : st0 = As.reverse ++ .ref (ad kd i) :: rest) (hW : (rest.map fun v => v.category).sum ≤ 8) (hls : ls.size = nL) (hdg : decode cc pc = .ok (.invokevirtual 144, 3)) (hf : cells + mc ≤ R.cells ∧ slots + ms ≤ R.slots) : va_Run p l e R s m args below meth c H locs cells slots mc ms (F0 m pc ls st0) rest (Qc (Value.ref (ad kd i) :: As).toArray) free := wa_runV F hM (wa_wV qw_848 qw_850 qw_40 qw_51 qw_851) ⟨by decide, by decide, rfl⟩ hR hz hP (wa_rcv (q := (RX5, TX5, 32)) F.2.1 hw he rfl) hn hst hW hls hdg hf
theorem kX5_150 {rm : Room} {Pre : Heap → Prop} {Qc : Array Value → State → Outcome → State → Prop} {free : Addr → Prop} {As : List Value} {mc ms : Nat} (F : wa_fx p s m c meth args cc nL RX5 nm ret D cy) (hM : Met l yX5_running wX5_running rm (wa_pc (.ref (ad kd i) :: As) D cy Pre) Qc mc ms free) (hR : wa_rm rm R 4) (hz : rm.cells = mc ∧ rm.slots = ms) (hP : Pre H) (hw : wa_wd D ad C H) (he : C kd i = some (.inr (5, fs))) (hn : As.length = 1) (hst : st0 = As.reverse ++ .ref (ad kd i) :: rest) (hW : (rest.map fun v => v.category).sum ≤ 8) (hls : ls.size = nL) (hdg : decode cc pc = .ok (.invokevirtual 150, 3)) (hf : cells + mc ≤ R.cells ∧ slots + ms ≤ R.slots) : va_Run p l e R s m args below meth c H locs cells slots mc ms (F0 m pc ls st0) rest (Qc (Value.ref (ad kd i) :: As).toArray) free := wa_runV F hM (wa_wV qw_860 qw_862 qw_41 qw_51 qw_863) ⟨by decide, by decide, rfl⟩ hR hz hP (wa_rcv (q := (RX5, TX5, 32)) F.2.1 hw he rfl) hn hst hW hls hdg hf
theorem kX5_153 {rm : Room} {Pre : Heap → Prop} {Qc : Array Value → State → Outcome → State → Prop} {free : Addr → Prop} {As : List Value} {mc ms : Nat} (F : wa_fx p s m c meth args cc nL RX5 nm ret D cy) (hM : Met l yX5_isTooOld wX5_isTooOld rm (wa_pc (.ref (ad kd i) :: As) D cy Pre) Qc mc ms free) (hR : wa_rm rm R 2) (hz : rm.cells = mc ∧ rm.slots = ms) (hP : Pre H) (hw : wa_wd D ad C H) (he : C kd i = some (.inr (5, fs))) (hn : As.length = 1) (hst : st0 = As.reverse ++ .ref (ad kd i) :: rest) (hW : (rest.map fun v => v.category).sum ≤ 8) (hls : ls.size = nL) (hdg : decode cc pc = .ok (.invokevirtual 153, 3)) (hf : cells + mc ≤ R.cells ∧ slots + ms ≤ R.slots) : va_Run p l e R s m args below meth c H locs cells slots mc ms (F0 m pc ls st0) rest (Qc (Value.ref (ad kd i) :: As).toArray) free := wa_runV F hM (wa_wV qw_884 qw_886 qw_42 qw_51 qw_887) ⟨by decide, by decide, rfl⟩ hR hz hP (wa_rcv (q := (RX5, TX5, 32)) F.2.1 hw he rfl) hn hst hW hls hdg hf
theorem kX5_156 {rm : Room} {Pre : Heap → Prop} {Qc : Array Value → State → Outcome → State → Prop} {free : Addr → Prop} {As : List Value} {mc ms : Nat} (F : wa_fx p s m c meth args cc nL RX5 nm ret D cy) (hM : Met l yX5_bakeFor wX5_bakeFor rm (wa_pc (.ref (ad kd i) :: As) D cy Pre) Qc mc ms free) (hR : wa_rm rm R 8) (hz : rm.cells = mc ∧ rm.slots = ms) (hP : Pre H) (hw : wa_wd D ad C H) (he : C kd i = some (.inr (5, fs))) (hn : As.length = 3) (hst : st0 = As.reverse ++ .ref (ad kd i) :: rest) (hW : (rest.map fun v => v.category).sum ≤ 8) (hls : ls.size = nL) (hdg : decode cc pc = .ok (.invokevirtual 156, 3)) (hf : cells + mc ≤ R.cells ∧ slots + ms ≤ R.slots) : va_Run p l e R s m args below meth c H locs cells slots mc ms (F0 m pc ls st0) rest (Qc (Value.ref (ad kd i) :: As).toArray) free := wa_runV F hM (wa_wV qw_892 qw_894 qw_43 qw_51 qw_895) ⟨by decide, by decide, rfl⟩ hR hz hP (wa_rcv (q := (RX5, TX5, 32)) F.2.1 hw he rfl) hn hst hW hls hdg hf
theorem kX5_159 {rm : Room} {Pre : Heap → Prop} {Qc : Array Value → State → Outcome → State → Prop} {free : Addr → Prop} {As : List Value} {mc ms : Nat} (F : wa_fx p s m c meth args cc nL RX5 nm ret D cy) (hM : Met l yX5_isRunning wX5_isRunning rm (wa_pc (.ref (ad kd i) :: As) D cy Pre) Qc mc ms free) (hR : wa_rm rm R 2) (hz : rm.cells = mc ∧ rm.slots = ms) (hP : Pre H) (hw : wa_wd D ad C H) (he : C kd i = some (.inr (5, fs))) (hn : As.length = 1) (hst : st0 = As.reverse ++ .ref (ad kd i) :: rest) (hW : (rest.map fun v => v.category).sum ≤ 8) (hls : ls.size = nL) (hdg : decode cc pc = .ok (.invokevirtual 159, 3)) (hf : cells + mc ≤ R.cells ∧ slots + ms ≤ R.slots) : va_Run p l e R s m args below meth c H locs cells slots mc ms (F0 m pc ls st0) rest (Qc (Value.ref (ad kd i) :: As).toArray) free := wa_runV F hM (wa_wV qw_900 qw_902 qw_44 qw_51 qw_903) ⟨by decide, by decide, rfl⟩ hR hz hP (wa_rcv (q := (RX5, TX5, 32)) F.2.1 hw he rfl) hn hst hW hls hdg hf
theorem kX5_162 {rm : Room} {Pre : Heap → Prop} {Qc : Array Value → State → Outcome → State → Prop} {free : Addr → Prop} {As : List Value} {mc ms : Nat} (F : wa_fx p s m c meth args cc nL RX5 nm ret D cy) (hM : Met l yX5_next wX5_next rm (wa_pc (.ref (ad kd i) :: As) D cy Pre) Qc mc ms free) (hR : wa_rm rm R 2) (hz : rm.cells = mc ∧ rm.slots = ms) (hP : Pre H) (hw : wa_wd D ad C H) (he : C kd i = some (.inr (5, fs))) (hn : As.length = 1) (hst : st0 = As.reverse ++ .ref (ad kd i) :: rest) (hW : (rest.map fun v => v.category).sum ≤ 8) (hls : ls.size = nL) (hdg : decode cc pc = .ok (.invokevirtual 162, 3)) (hf : cells + mc ≤ R.cells ∧ slots + ms ≤ R.slots) : va_Run p l e R s m args below meth c H locs cells slots mc ms (F0 m pc ls st0) rest (Qc (Value.ref (ad kd i) :: As).toArray) free := wa_runV F hM (wa_wV qw_904 qw_906 qw_45 qw_51 qw_907) ⟨by decide, by decide, rfl⟩ hR hz hP (wa_rcv (q := (RX5, TX5, 32)) F.2.1 hw he rfl) hn hst hW hls hdg hf
theorem kX5_165 {rm : Room} {Pre : Heap → Prop} {Qc : Array Value → State → Outcome → State → Prop} {free : Addr → Prop} {As : List Value} {mc ms : Nat} (F : wa_fx p s m c meth args cc nL RX5 nm ret D cy) (hM : Met l yX5_isOld wX5_isOld rm (wa_pc (.ref (ad kd i) :: As) D cy Pre) Qc mc ms free) (hR : wa_rm rm R 2) (hz : rm.cells = mc ∧ rm.slots = ms) (hP : Pre H) (hw : wa_wd D ad C H) (he : C kd i = some (.inr (5, fs))) (hn : As.length = 1) (hst : st0 = As.reverse ++ .ref (ad kd i) :: rest) (hW : (rest.map fun v => v.category).sum ≤ 8) (hls : ls.size = nL) (hdg : decode cc pc = .ok (.invokevirtual 165, 3)) (hf : cells + mc ≤ R.cells ∧ slots + ms ≤ R.slots) : va_Run p l e R s m args below meth c H locs cells slots mc ms (F0 m pc ls st0) rest (Qc (Value.ref (ad kd i) :: As).toArray) free := wa_runV F hM (wa_wV qw_920 qw_922 qw_46 qw_51 qw_923) ⟨by decide, by decide, rfl⟩ hR hz hP (wa_rcv (q := (RX5, TX5, 32)) F.2.1 hw he rfl) hn hst hW hls hdg hf
theorem kX5_168 {rm : Room} {Pre : Heap → Prop} {Qc : Array Value → State → Outcome → State → Prop} {free : Addr → Prop} {As : List Value} {mc ms : Nat} (F : wa_fx p s m c meth args cc nL RX5 nm ret D cy) (hM : Met l yX5_isAhead wX5_isAhead rm (wa_pc (.ref (ad kd i) :: As) D cy Pre) Qc mc ms free) (hR : wa_rm rm R 5) (hz : rm.cells = mc ∧ rm.slots = ms) (hP : Pre H) (hw : wa_wd D ad C H) (he : C kd i = some (.inr (5, fs))) (hn : As.length = 2) (hst : st0 = As.reverse ++ .ref (ad kd i) :: rest) (hW : (rest.map fun v => v.category).sum ≤ 8) (hls : ls.size = nL) (hdg : decode cc pc = .ok (.invokevirtual 168, 3)) (hf : cells + mc ≤ R.cells ∧ slots + ms ≤ R.slots) : va_Run p l e R s m args below meth c H locs cells slots mc ms (F0 m pc ls st0) rest (Qc (Value.ref (ad kd i) :: As).toArray) free := wa_runV F hM (wa_wV qw_928 qw_930 qw_47 qw_51 qw_931) ⟨by decide, by decide, rfl⟩ hR hz hP (wa_rcv (q := (RX5, TX5, 32)) F.2.1 hw he rfl) hn hst hW hls hdg hf
end WAF
end
section
/-! the state of the system: the reference's fields and rows by their numbers (TX5): T k j; a field alone is T k 0 -/
abbrev wa_St : Type := Nat → Nat → Int
def wa_s (T : wa_St) (k j : Nat) (v : Int) : wa_St := fun a b => if a = k ∧ b = j then v else T a b
abbrev bI (P : Prop) [Decidable P] : Int := if P then 1 else 0
theorem bI_t {P : Prop} [Decidable P] (h : P) : bI P = 1 := if_pos h
theorem bI_f {P : Prop} [Decidable P] (h : ¬ P) : bI P = 0 := if_neg h
theorem bI_01 (P : Prop) [Decidable P] : bI P = 0 ∨ bI P = 1 := by by_cases h : P; exact Or.inr (bI_t h); exact Or.inl (bI_f h)
theorem wa_s_ne {T : wa_St} {k j a b : Nat} {v : Int} (h : ¬ (a = k ∧ b = j)) : wa_s T k j v a b = T a b := if_neg h
theorem wa_s_eq {T : wa_St} {k j : Nat} {v : Int} : wa_s T k j v k j = v := if_pos ⟨rfl, rfl⟩
theorem wa_s_eq' {T : wa_St} {k j b : Nat} {v : Int} (h : b = j) : wa_s T k j v k b = v := if_pos ⟨rfl, h⟩
theorem wa_s_nk {T : wa_St} {k j a b : Nat} {v : Int} (h : a ≠ k) : wa_s T k j v a b = T a b := if_neg (fun q => h q.1)
theorem wa_s_nj {T : wa_St} {k j a b : Nat} {v : Int} (h : b ≠ j) : wa_s T k j v a b = T a b := if_neg (fun q => h q.2)
-- the first of n places from i on at which p holds, as a number; -2 without one
def f_fnd (p : Nat → Bool) : Nat → Nat → Int
  | 0, _ => -2
  | n + 1, i => if p i = true then (i : Int) else f_fnd p n (i + 1)
-- the last of n places at which p holds; -1 without one
def f_last (p : Nat → Bool) : Nat → Int
  | 0 => -1
  | n + 1 => if p n = true then (n : Int) else f_last p n
-- at how many of n places p holds
def f_cnt (p : Nat → Bool) : Nat → Int
  | 0 => 0
  | n + 1 => f_cnt p n + bI (p n = true)
def f_find (T : wa_St) (lo inp ver : Int) : Int := f_fnd (fun l => decide (T 9 l = lo ∧ T 10 l = inp ∧ T 11 l = ver)) (T 12 0).toNat 0
abbrev f_isImage (T : wa_St) (i : Int) : Prop := 0 ≤ i ∧ i ≤ T 8 0 - 1
abbrev f_isBake (T : wa_St) (i : Int) : Prop := 0 ≤ i ∧ i ≤ T 21 0 - 1
abbrev f_hasBase (T : wa_St) (i : Nat) : Prop := T 4 i = -1 ∨ T 7 (T 4 i).toNat ≠ -1
def f_base (T : wa_St) (i : Nat) : Int := if T 4 i = -1 then -1 else T 14 (T 7 (T 4 i).toNat).toNat
-- n steps from place s on, beginning with z
def f_top (T : wa_St) : Nat → Nat → Int → Int
  | 0, _, z => z
  | n + 1, s, z => if z = -2 then -2 else f_top T n (s + 1) (f_find T z (T 5 s) (T 2 (T 5 s).toNat))
def f_topNow (T : wa_St) (i : Nat) : Int := f_top T (T 6 i).toNat (5 * i) (f_base T i)
abbrev f_alike (T : wa_St) (i : Nat) : Prop := T 7 i ≠ -1 ∧ f_topNow T i = T 14 (T 7 i).toNat
-- the image z and its forefathers, n at most
def f_fr (T : wa_St) : Nat → Int → Bool
  | 0, _ => true
  | n + 1, z => decide (z = -1) || (decide (f_hasBase T z.toNat ∧ f_alike T z.toNat) && f_fr T n (T 4 z.toNat))
def f_fresh (T : wa_St) (i : Nat) : Bool := f_fr T (i + 1) (i : Int)
def f_addL (T : wa_St) (z inp ver : Int) : wa_St := wa_s (wa_s (wa_s (wa_s T 9 (T 12 0).toNat z) 10 (T 12 0).toNat inp) 11 (T 12 0).toNat ver) 12 0 (T 12 0 + 1)
def f_mk : Nat → Nat → wa_St → Int → wa_St × Int
  | 0, _, T, z => (T, z)
  | n + 1, s, T, z => if f_find T z (T 5 s) (T 2 (T 5 s).toNat) = -2 then f_mk n (s + 1) (f_addL T z (T 5 s) (T 2 (T 5 s).toNat)) (T 12 0) else f_mk n (s + 1) T (f_find T z (T 5 s) (T 2 (T 5 s).toNat))
def f_newB (T : wa_St) (i : Nat) (z : Int) : wa_St :=
  let b := (T 21 0).toNat
  wa_s (wa_s (wa_s (wa_s (wa_s (wa_s (wa_s (wa_s (wa_s (wa_s (wa_s (wa_s T 13 b i) 14 b z) 15 b (T 1 0)) 16 b 0) 17 b 0) 18 b 0) 19 b 0) 20 (3 * b) (-1)) 20 (3 * b + 1) (-1)) 20 (3 * b + 2) (-1)) 7 i (T 21 0)) 21 0 (T 21 0 + 1)
def f_makes (T : wa_St) (i : Nat) : wa_St := f_newB (f_mk (T 6 i).toNat (5 * i) T (f_base T i)).1 i (f_mk (T 6 i).toNat (5 * i) T (f_base T i)).2
def f_run (T : wa_St) (b : Int) : Int := f_cnt (fun m => decide (T 28 m = b)) (T 29 0).toNat
abbrev f_old (T : wa_St) (b : Nat) : Prop := T 23 0 < T 1 0 - T 15 b
def f_can (T : wa_St) (i pl rg : Int) (b : Nat) : Bool := decide (T 13 b = i ∧ T 20 (3 * b + pl.toNat) ≠ -1 ∧ T 20 (3 * b + pl.toNat) ≤ T 1 0 ∧ T 17 b = 0 ∧ T 18 b = 0 ∧ ¬ f_old T b ∧ rg ≤ T 16 b)
def f_bakeFor (T : wa_St) (i pl rg : Int) : Int := f_last (f_can T i pl rg) (T 21 0).toNat
abbrev f_isRunning (T : wa_St) (m : Int) : Prop := (0 ≤ m ∧ m ≤ T 29 0 - 1) ∧ T 28 m.toNat ≠ -1
def f_next (T : wa_St) (m : Nat) : Int := f_bakeFor T (T 25 m) (T 26 m) (T 27 m)
def f_isOld (T : wa_St) (m : Nat) : Bool := decide (T 28 m ≠ -1 ∧ (T 17 (T 28 m).toNat ≠ 0 ∨ f_old T (T 28 m).toNat ∨ (f_next T m ≠ -1 ∧ f_next T m ≠ T 28 m)))
def f_ahead (T : wa_St) (m o : Nat) : Bool := if T 17 (T 28 m).toNat ≠ T 17 (T 28 o).toNat then decide (T 17 (T 28 m).toNat ≠ 0) else if T 15 (T 28 m).toNat ≠ T 15 (T 28 o).toNat then decide (T 15 (T 28 m).toNat < T 15 (T 28 o).toNat) else decide (m < o)
def f_rank (T : wa_St) (m : Nat) : Int := f_cnt (fun e => decide (e ≠ m) && f_isOld T e && f_ahead T e m) (T 29 0).toNat

/-- the reference as an object -/
def wm_fs (ad : Nat → Nat → Nat) (T : wa_St) : List Value := [.int (iI (T 0 0)), .int (iI (T 1 0)), .ref (ad 6 2), .ref (ad 6 3), .ref (ad 6 4), .ref (ad 6 5), .ref (ad 6 6), .ref (ad 6 7), .int (iI (T 8 0)), .ref (ad 6 9), .ref (ad 6 10), .ref (ad 6 11), .int (iI (T 12 0)), .ref (ad 6 13), .ref (ad 6 14), .ref (ad 6 15), .ref (ad 6 16), .ref (ad 6 17), .ref (ad 6 18), .ref (ad 6 19), .ref (ad 6 20), .int (iI (T 21 0)), .ref (ad 6 22), .int (iI (T 23 0)), .int (iI (T 24 0)), .ref (ad 6 25), .ref (ad 6 26), .ref (ad 6 27), .ref (ad 6 28), .int (iI (T 29 0)), .ref (ad 6 30), .ref (ad 6 31)]
def wm_C (cy : Nat → ClassId) (ad : Nat → Nat → Nat) (T : wa_St) : Nat → Option va_E := fun i => match i with
  | 0 => some (.inr (5, wm_fs ad T))
  | 2 => some (wa_aI (cy 0) 10 (T 2))
  | 3 => some (wa_aI (cy 0) 10 (T 3))
  | 4 => some (wa_aI (cy 0) 10 (T 4))
  | 5 => some (wa_aI (cy 0) 50 (T 5))
  | 6 => some (wa_aI (cy 0) 10 (T 6))
  | 7 => some (wa_aI (cy 0) 10 (T 7))
  | 9 => some (wa_aI (cy 0) 300 (T 9))
  | 10 => some (wa_aI (cy 0) 300 (T 10))
  | 11 => some (wa_aI (cy 0) 300 (T 11))
  | 13 => some (wa_aI (cy 0) 60 (T 13))
  | 14 => some (wa_aI (cy 0) 60 (T 14))
  | 15 => some (wa_aI (cy 0) 60 (T 15))
  | 16 => some (wa_aI (cy 0) 60 (T 16))
  | 17 => some (wa_aI (cy 1) 60 (T 17))
  | 18 => some (wa_aI (cy 1) 60 (T 18))
  | 19 => some (wa_aI (cy 1) 60 (T 19))
  | 20 => some (wa_aI (cy 0) 180 (T 20))
  | 22 => some (wa_aI (cy 0) 3 (T 22))
  | 25 => some (wa_aI (cy 0) 30 (T 25))
  | 26 => some (wa_aI (cy 0) 30 (T 26))
  | 27 => some (wa_aI (cy 0) 30 (T 27))
  | 28 => some (wa_aI (cy 0) 30 (T 28))
  | 30 => some (wa_aI (cy 0) 10 (T 30))
  | 31 => some (wa_aI (cy 0) 10 (T 31))
  | _ => none
/-- a number as a reference into a kind -/
def wa_op (ad : Nat → Nat → Nat) (kd : Nat) (z : Int) : Option Nat := if z < 0 then none else some (ad kd z.toNat)
/-- the class's object and what belongs to it alone: S is the state, X what the state doesn't say -/
def wx_fs (ad : Nat → Nat → Nat) (S : wa_St) : List Value := [.ref (ad 0 1), .ref (ad 0 5), .ref (ad 0 6), .ref (ad 0 7), .int (iI (S 8 0)), .ref (ad 0 8), .int (iI (S 21 0)), .ref (ad 0 9), .int (iI (S 29 0)), .int (iI (S 1 0)), .ref (ad 0 10), .int (iI (S 23 0)), .int (iI (S 24 0)), .ref (ad 0 11), .ref (ad 0 12), .ref (ad 0 13), .ref (ad 0 14)]
def wx_ls (ad : Nat → Nat → Nat) (S : wa_St) : List Value := [.ref (ad 0 2), .ref (ad 0 3), .ref (ad 0 4), .int (iI (S 12 0))]
def wx_in (ad : Nat → Nat → Nat) (kd : Nat) (n : Int) : Nat → Option Nat := fun j => if (j : Int) < n then some (ad kd j) else none
def wx_C0 (cy : Nat → ClassId) (ad : Nat → Nat → Nat) (S X : wa_St) : Nat → Option va_E := fun i => match i with
  | 0 => some (.inr (4, wx_fs ad S))
  | 1 => some (.inr (2, wx_ls ad S))
  | 2 => some (wa_aI (cy 0) 300 (X 2))
  | 3 => some (wa_aI (cy 0) 300 (X 3))
  | 4 => some (wa_aI (cy 0) 300 (X 4))
  | 5 => some (wa_aI (cy 0) 10 (S 2))
  | 6 => some (wa_aI (cy 0) 10 (S 3))
  | 7 => some (wa_aR (cy 3) 10 (wx_in ad 1 (S 8 0)))
  | 8 => some (wa_aR (cy 2) 60 (wx_in ad 3 (S 21 0)))
  | 9 => some (wa_aR (cy 4) 30 (wx_in ad 5 (S 29 0)))
  | 10 => some (wa_aI (cy 0) 3 (S 22))
  | 11 => some (wa_aR (cy 3) 10 (fun j => wa_op ad 1 (X 11 j)))
  | 12 => some (wa_aR (cy 3) 10 (fun j => wa_op ad 1 (X 12 j)))
  | 13 => some (wa_aI (cy 0) 50 (X 13))
  | 14 => some (wa_aR (cy 4) 30 (fun j => wa_op ad 5 (X 14 j)))
  | _ => none
def wx_fI (ad : Nat → Nat → Nat) (S X : wa_St) (i : Nat) : List Value := [.int (iI (i : Int)), va_rf (wa_op ad 1 (S 4 i)), .ref (ad 2 i), .int (iI (S 6 i)), va_rf (wa_op ad 3 (S 7 i)), .int (iI (X 20 i))]
def wx_fB (ad : Nat → Nat → Nat) (S : wa_St) (b : Nat) : List Value := [.int (iI (b : Int)), .ref (ad 1 (S 13 b).toNat), .int (iI (S 14 b)), .int (iI (S 15 b)), .ref (ad 4 b), .int (iI (S 16 b)), .int (iI (S 19 b)), .int (iI (S 17 b)), .int (iI (S 18 b))]
def wx_fM (ad : Nat → Nat → Nat) (S : wa_St) (m : Nat) : List Value := [.int (iI (m : Int)), .ref (ad 1 (S 25 m).toNat), .int (iI (S 26 m)), .int (iI (S 27 m)), va_rf (wa_op ad 3 (S 28 m))]
/-- the whole world: kind 0 the class's own cells, 1 images, 2 their inputs, 3 bakes, 4 their first days, 5 machines, 6 the reference, 7 the law's row of one long -/
def wW (cy : Nat → ClassId) (ad : Nat → Nat → Nat) (S X T : wa_St) (o : Int64) : wa_C := fun kd i => match kd with
  | 0 => wx_C0 cy ad S X i
  | 1 => if (i : Int) < S 8 0 then some (.inr (1, wx_fI ad S X i)) else none
  | 2 => if (i : Int) < S 8 0 then some (wa_aI (cy 0) 5 (fun j => S 5 (5 * i + j))) else none
  | 3 => if (i : Int) < S 21 0 then some (.inr (0, wx_fB ad S i)) else none
  | 4 => if (i : Int) < S 21 0 then some (wa_aI (cy 0) 3 (fun j => S 20 (3 * i + j))) else none
  | 5 => if (i : Int) < S 29 0 then some (.inr (3, wx_fM ad S i)) else none
  | 6 => wm_C cy ad T i
  | 7 => match i with
    | 0 => some (wa_aL (cy 5) 1 (fun _ => o))
    | _ => none
  | _ => none

theorem wm_s0 (cy : Nat → ClassId) (ad : Nat → Nat → Nat) (S X T : wa_St) (o : Int64) (v : Int) : wa_up (wW cy ad S X T o) 6 0 (.inr (5, (wm_fs ad T).set 0 (.int (iI v)))) = wW cy ad S X (wa_s T 0 0 v) o := by
  funext a b
  by_cases h : a = 6 ∧ b = 0
  · obtain ⟨rfl, rfl⟩ := h
    rw [wa_up_s]
    rfl
  · rw [wa_up_n h]
    match a, b, h with
    | 6, 0, h => exact absurd ⟨rfl, rfl⟩ h
    | 6, 1, _ => rfl
    | 6, 2, _ => rfl
    | 6, 3, _ => rfl
    | 6, 4, _ => rfl
    | 6, 5, _ => rfl
    | 6, 6, _ => rfl
    | 6, 7, _ => rfl
    | 6, 8, _ => rfl
    | 6, 9, _ => rfl
    | 6, 10, _ => rfl
    | 6, 11, _ => rfl
    | 6, 12, _ => rfl
    | 6, 13, _ => rfl
    | 6, 14, _ => rfl
    | 6, 15, _ => rfl
    | 6, 16, _ => rfl
    | 6, 17, _ => rfl
    | 6, 18, _ => rfl
    | 6, 19, _ => rfl
    | 6, 20, _ => rfl
    | 6, 21, _ => rfl
    | 6, 22, _ => rfl
    | 6, 23, _ => rfl
    | 6, 24, _ => rfl
    | 6, 25, _ => rfl
    | 6, 26, _ => rfl
    | 6, 27, _ => rfl
    | 6, 28, _ => rfl
    | 6, 29, _ => rfl
    | 6, 30, _ => rfl
    | 6, 31, _ => rfl
    | 6, n + 32, _ => rfl
    | 0, _, _ => rfl
    | 1, _, _ => rfl
    | 2, _, _ => rfl
    | 3, _, _ => rfl
    | 4, _, _ => rfl
    | 5, _, _ => rfl
    | 7, _, _ => rfl
    | n + 8, _, _ => rfl
theorem wm_s1 (cy : Nat → ClassId) (ad : Nat → Nat → Nat) (S X T : wa_St) (o : Int64) (v : Int) : wa_up (wW cy ad S X T o) 6 0 (.inr (5, (wm_fs ad T).set 1 (.int (iI v)))) = wW cy ad S X (wa_s T 1 0 v) o := by
  funext a b
  by_cases h : a = 6 ∧ b = 0
  · obtain ⟨rfl, rfl⟩ := h
    rw [wa_up_s]
    rfl
  · rw [wa_up_n h]
    match a, b, h with
    | 6, 0, h => exact absurd ⟨rfl, rfl⟩ h
    | 6, 1, _ => rfl
    | 6, 2, _ => rfl
    | 6, 3, _ => rfl
    | 6, 4, _ => rfl
    | 6, 5, _ => rfl
    | 6, 6, _ => rfl
    | 6, 7, _ => rfl
    | 6, 8, _ => rfl
    | 6, 9, _ => rfl
    | 6, 10, _ => rfl
    | 6, 11, _ => rfl
    | 6, 12, _ => rfl
    | 6, 13, _ => rfl
    | 6, 14, _ => rfl
    | 6, 15, _ => rfl
    | 6, 16, _ => rfl
    | 6, 17, _ => rfl
    | 6, 18, _ => rfl
    | 6, 19, _ => rfl
    | 6, 20, _ => rfl
    | 6, 21, _ => rfl
    | 6, 22, _ => rfl
    | 6, 23, _ => rfl
    | 6, 24, _ => rfl
    | 6, 25, _ => rfl
    | 6, 26, _ => rfl
    | 6, 27, _ => rfl
    | 6, 28, _ => rfl
    | 6, 29, _ => rfl
    | 6, 30, _ => rfl
    | 6, 31, _ => rfl
    | 6, n + 32, _ => rfl
    | 0, _, _ => rfl
    | 1, _, _ => rfl
    | 2, _, _ => rfl
    | 3, _, _ => rfl
    | 4, _, _ => rfl
    | 5, _, _ => rfl
    | 7, _, _ => rfl
    | n + 8, _, _ => rfl
theorem wm_s8 (cy : Nat → ClassId) (ad : Nat → Nat → Nat) (S X T : wa_St) (o : Int64) (v : Int) : wa_up (wW cy ad S X T o) 6 0 (.inr (5, (wm_fs ad T).set 8 (.int (iI v)))) = wW cy ad S X (wa_s T 8 0 v) o := by
  funext a b
  by_cases h : a = 6 ∧ b = 0
  · obtain ⟨rfl, rfl⟩ := h
    rw [wa_up_s]
    rfl
  · rw [wa_up_n h]
    match a, b, h with
    | 6, 0, h => exact absurd ⟨rfl, rfl⟩ h
    | 6, 1, _ => rfl
    | 6, 2, _ => rfl
    | 6, 3, _ => rfl
    | 6, 4, _ => rfl
    | 6, 5, _ => rfl
    | 6, 6, _ => rfl
    | 6, 7, _ => rfl
    | 6, 8, _ => rfl
    | 6, 9, _ => rfl
    | 6, 10, _ => rfl
    | 6, 11, _ => rfl
    | 6, 12, _ => rfl
    | 6, 13, _ => rfl
    | 6, 14, _ => rfl
    | 6, 15, _ => rfl
    | 6, 16, _ => rfl
    | 6, 17, _ => rfl
    | 6, 18, _ => rfl
    | 6, 19, _ => rfl
    | 6, 20, _ => rfl
    | 6, 21, _ => rfl
    | 6, 22, _ => rfl
    | 6, 23, _ => rfl
    | 6, 24, _ => rfl
    | 6, 25, _ => rfl
    | 6, 26, _ => rfl
    | 6, 27, _ => rfl
    | 6, 28, _ => rfl
    | 6, 29, _ => rfl
    | 6, 30, _ => rfl
    | 6, 31, _ => rfl
    | 6, n + 32, _ => rfl
    | 0, _, _ => rfl
    | 1, _, _ => rfl
    | 2, _, _ => rfl
    | 3, _, _ => rfl
    | 4, _, _ => rfl
    | 5, _, _ => rfl
    | 7, _, _ => rfl
    | n + 8, _, _ => rfl
theorem wm_s12 (cy : Nat → ClassId) (ad : Nat → Nat → Nat) (S X T : wa_St) (o : Int64) (v : Int) : wa_up (wW cy ad S X T o) 6 0 (.inr (5, (wm_fs ad T).set 12 (.int (iI v)))) = wW cy ad S X (wa_s T 12 0 v) o := by
  funext a b
  by_cases h : a = 6 ∧ b = 0
  · obtain ⟨rfl, rfl⟩ := h
    rw [wa_up_s]
    rfl
  · rw [wa_up_n h]
    match a, b, h with
    | 6, 0, h => exact absurd ⟨rfl, rfl⟩ h
    | 6, 1, _ => rfl
    | 6, 2, _ => rfl
    | 6, 3, _ => rfl
    | 6, 4, _ => rfl
    | 6, 5, _ => rfl
    | 6, 6, _ => rfl
    | 6, 7, _ => rfl
    | 6, 8, _ => rfl
    | 6, 9, _ => rfl
    | 6, 10, _ => rfl
    | 6, 11, _ => rfl
    | 6, 12, _ => rfl
    | 6, 13, _ => rfl
    | 6, 14, _ => rfl
    | 6, 15, _ => rfl
    | 6, 16, _ => rfl
    | 6, 17, _ => rfl
    | 6, 18, _ => rfl
    | 6, 19, _ => rfl
    | 6, 20, _ => rfl
    | 6, 21, _ => rfl
    | 6, 22, _ => rfl
    | 6, 23, _ => rfl
    | 6, 24, _ => rfl
    | 6, 25, _ => rfl
    | 6, 26, _ => rfl
    | 6, 27, _ => rfl
    | 6, 28, _ => rfl
    | 6, 29, _ => rfl
    | 6, 30, _ => rfl
    | 6, 31, _ => rfl
    | 6, n + 32, _ => rfl
    | 0, _, _ => rfl
    | 1, _, _ => rfl
    | 2, _, _ => rfl
    | 3, _, _ => rfl
    | 4, _, _ => rfl
    | 5, _, _ => rfl
    | 7, _, _ => rfl
    | n + 8, _, _ => rfl
theorem wm_s21 (cy : Nat → ClassId) (ad : Nat → Nat → Nat) (S X T : wa_St) (o : Int64) (v : Int) : wa_up (wW cy ad S X T o) 6 0 (.inr (5, (wm_fs ad T).set 21 (.int (iI v)))) = wW cy ad S X (wa_s T 21 0 v) o := by
  funext a b
  by_cases h : a = 6 ∧ b = 0
  · obtain ⟨rfl, rfl⟩ := h
    rw [wa_up_s]
    rfl
  · rw [wa_up_n h]
    match a, b, h with
    | 6, 0, h => exact absurd ⟨rfl, rfl⟩ h
    | 6, 1, _ => rfl
    | 6, 2, _ => rfl
    | 6, 3, _ => rfl
    | 6, 4, _ => rfl
    | 6, 5, _ => rfl
    | 6, 6, _ => rfl
    | 6, 7, _ => rfl
    | 6, 8, _ => rfl
    | 6, 9, _ => rfl
    | 6, 10, _ => rfl
    | 6, 11, _ => rfl
    | 6, 12, _ => rfl
    | 6, 13, _ => rfl
    | 6, 14, _ => rfl
    | 6, 15, _ => rfl
    | 6, 16, _ => rfl
    | 6, 17, _ => rfl
    | 6, 18, _ => rfl
    | 6, 19, _ => rfl
    | 6, 20, _ => rfl
    | 6, 21, _ => rfl
    | 6, 22, _ => rfl
    | 6, 23, _ => rfl
    | 6, 24, _ => rfl
    | 6, 25, _ => rfl
    | 6, 26, _ => rfl
    | 6, 27, _ => rfl
    | 6, 28, _ => rfl
    | 6, 29, _ => rfl
    | 6, 30, _ => rfl
    | 6, 31, _ => rfl
    | 6, n + 32, _ => rfl
    | 0, _, _ => rfl
    | 1, _, _ => rfl
    | 2, _, _ => rfl
    | 3, _, _ => rfl
    | 4, _, _ => rfl
    | 5, _, _ => rfl
    | 7, _, _ => rfl
    | n + 8, _, _ => rfl
theorem wm_s23 (cy : Nat → ClassId) (ad : Nat → Nat → Nat) (S X T : wa_St) (o : Int64) (v : Int) : wa_up (wW cy ad S X T o) 6 0 (.inr (5, (wm_fs ad T).set 23 (.int (iI v)))) = wW cy ad S X (wa_s T 23 0 v) o := by
  funext a b
  by_cases h : a = 6 ∧ b = 0
  · obtain ⟨rfl, rfl⟩ := h
    rw [wa_up_s]
    rfl
  · rw [wa_up_n h]
    match a, b, h with
    | 6, 0, h => exact absurd ⟨rfl, rfl⟩ h
    | 6, 1, _ => rfl
    | 6, 2, _ => rfl
    | 6, 3, _ => rfl
    | 6, 4, _ => rfl
    | 6, 5, _ => rfl
    | 6, 6, _ => rfl
    | 6, 7, _ => rfl
    | 6, 8, _ => rfl
    | 6, 9, _ => rfl
    | 6, 10, _ => rfl
    | 6, 11, _ => rfl
    | 6, 12, _ => rfl
    | 6, 13, _ => rfl
    | 6, 14, _ => rfl
    | 6, 15, _ => rfl
    | 6, 16, _ => rfl
    | 6, 17, _ => rfl
    | 6, 18, _ => rfl
    | 6, 19, _ => rfl
    | 6, 20, _ => rfl
    | 6, 21, _ => rfl
    | 6, 22, _ => rfl
    | 6, 23, _ => rfl
    | 6, 24, _ => rfl
    | 6, 25, _ => rfl
    | 6, 26, _ => rfl
    | 6, 27, _ => rfl
    | 6, 28, _ => rfl
    | 6, 29, _ => rfl
    | 6, 30, _ => rfl
    | 6, 31, _ => rfl
    | 6, n + 32, _ => rfl
    | 0, _, _ => rfl
    | 1, _, _ => rfl
    | 2, _, _ => rfl
    | 3, _, _ => rfl
    | 4, _, _ => rfl
    | 5, _, _ => rfl
    | 7, _, _ => rfl
    | n + 8, _, _ => rfl
theorem wm_s24 (cy : Nat → ClassId) (ad : Nat → Nat → Nat) (S X T : wa_St) (o : Int64) (v : Int) : wa_up (wW cy ad S X T o) 6 0 (.inr (5, (wm_fs ad T).set 24 (.int (iI v)))) = wW cy ad S X (wa_s T 24 0 v) o := by
  funext a b
  by_cases h : a = 6 ∧ b = 0
  · obtain ⟨rfl, rfl⟩ := h
    rw [wa_up_s]
    rfl
  · rw [wa_up_n h]
    match a, b, h with
    | 6, 0, h => exact absurd ⟨rfl, rfl⟩ h
    | 6, 1, _ => rfl
    | 6, 2, _ => rfl
    | 6, 3, _ => rfl
    | 6, 4, _ => rfl
    | 6, 5, _ => rfl
    | 6, 6, _ => rfl
    | 6, 7, _ => rfl
    | 6, 8, _ => rfl
    | 6, 9, _ => rfl
    | 6, 10, _ => rfl
    | 6, 11, _ => rfl
    | 6, 12, _ => rfl
    | 6, 13, _ => rfl
    | 6, 14, _ => rfl
    | 6, 15, _ => rfl
    | 6, 16, _ => rfl
    | 6, 17, _ => rfl
    | 6, 18, _ => rfl
    | 6, 19, _ => rfl
    | 6, 20, _ => rfl
    | 6, 21, _ => rfl
    | 6, 22, _ => rfl
    | 6, 23, _ => rfl
    | 6, 24, _ => rfl
    | 6, 25, _ => rfl
    | 6, 26, _ => rfl
    | 6, 27, _ => rfl
    | 6, 28, _ => rfl
    | 6, 29, _ => rfl
    | 6, 30, _ => rfl
    | 6, 31, _ => rfl
    | 6, n + 32, _ => rfl
    | 0, _, _ => rfl
    | 1, _, _ => rfl
    | 2, _, _ => rfl
    | 3, _, _ => rfl
    | 4, _, _ => rfl
    | 5, _, _ => rfl
    | 7, _, _ => rfl
    | n + 8, _, _ => rfl
theorem wm_s29 (cy : Nat → ClassId) (ad : Nat → Nat → Nat) (S X T : wa_St) (o : Int64) (v : Int) : wa_up (wW cy ad S X T o) 6 0 (.inr (5, (wm_fs ad T).set 29 (.int (iI v)))) = wW cy ad S X (wa_s T 29 0 v) o := by
  funext a b
  by_cases h : a = 6 ∧ b = 0
  · obtain ⟨rfl, rfl⟩ := h
    rw [wa_up_s]
    rfl
  · rw [wa_up_n h]
    match a, b, h with
    | 6, 0, h => exact absurd ⟨rfl, rfl⟩ h
    | 6, 1, _ => rfl
    | 6, 2, _ => rfl
    | 6, 3, _ => rfl
    | 6, 4, _ => rfl
    | 6, 5, _ => rfl
    | 6, 6, _ => rfl
    | 6, 7, _ => rfl
    | 6, 8, _ => rfl
    | 6, 9, _ => rfl
    | 6, 10, _ => rfl
    | 6, 11, _ => rfl
    | 6, 12, _ => rfl
    | 6, 13, _ => rfl
    | 6, 14, _ => rfl
    | 6, 15, _ => rfl
    | 6, 16, _ => rfl
    | 6, 17, _ => rfl
    | 6, 18, _ => rfl
    | 6, 19, _ => rfl
    | 6, 20, _ => rfl
    | 6, 21, _ => rfl
    | 6, 22, _ => rfl
    | 6, 23, _ => rfl
    | 6, 24, _ => rfl
    | 6, 25, _ => rfl
    | 6, 26, _ => rfl
    | 6, 27, _ => rfl
    | 6, 28, _ => rfl
    | 6, 29, _ => rfl
    | 6, 30, _ => rfl
    | 6, 31, _ => rfl
    | 6, n + 32, _ => rfl
    | 0, _, _ => rfl
    | 1, _, _ => rfl
    | 2, _, _ => rfl
    | 3, _, _ => rfl
    | 4, _, _ => rfl
    | 5, _, _ => rfl
    | 7, _, _ => rfl
    | n + 8, _, _ => rfl
theorem wm_a2 (cy : Nat → ClassId) (ad : Nat → Nat → Nat) (S X T : wa_St) (o : Int64) (j : Nat) (v : Int) : wa_up (wW cy ad S X T o) 6 2 (wa_aI (cy 0) 10 (wa_g (T 2) j v)) = wW cy ad S X (wa_s T 2 j v) o := by
  funext a b
  by_cases h : a = 6 ∧ b = 2
  · obtain ⟨rfl, rfl⟩ := h
    rw [wa_up_s]
    show some (wa_aI _ _ _) = some (wa_aI _ _ _)
    congr 2
    funext z
    simp [wa_g, wa_s]
  · rw [wa_up_n h]
    match a, b, h with
    | 6, 2, h => exact absurd ⟨rfl, rfl⟩ h
    | 6, 0, _ => rfl
    | 6, 1, _ => rfl
    | 6, 3, _ => rfl
    | 6, 4, _ => rfl
    | 6, 5, _ => rfl
    | 6, 6, _ => rfl
    | 6, 7, _ => rfl
    | 6, 8, _ => rfl
    | 6, 9, _ => rfl
    | 6, 10, _ => rfl
    | 6, 11, _ => rfl
    | 6, 12, _ => rfl
    | 6, 13, _ => rfl
    | 6, 14, _ => rfl
    | 6, 15, _ => rfl
    | 6, 16, _ => rfl
    | 6, 17, _ => rfl
    | 6, 18, _ => rfl
    | 6, 19, _ => rfl
    | 6, 20, _ => rfl
    | 6, 21, _ => rfl
    | 6, 22, _ => rfl
    | 6, 23, _ => rfl
    | 6, 24, _ => rfl
    | 6, 25, _ => rfl
    | 6, 26, _ => rfl
    | 6, 27, _ => rfl
    | 6, 28, _ => rfl
    | 6, 29, _ => rfl
    | 6, 30, _ => rfl
    | 6, 31, _ => rfl
    | 6, n + 32, _ => rfl
    | 0, _, _ => rfl
    | 1, _, _ => rfl
    | 2, _, _ => rfl
    | 3, _, _ => rfl
    | 4, _, _ => rfl
    | 5, _, _ => rfl
    | 7, _, _ => rfl
    | n + 8, _, _ => rfl
theorem wm_a3 (cy : Nat → ClassId) (ad : Nat → Nat → Nat) (S X T : wa_St) (o : Int64) (j : Nat) (v : Int) : wa_up (wW cy ad S X T o) 6 3 (wa_aI (cy 0) 10 (wa_g (T 3) j v)) = wW cy ad S X (wa_s T 3 j v) o := by
  funext a b
  by_cases h : a = 6 ∧ b = 3
  · obtain ⟨rfl, rfl⟩ := h
    rw [wa_up_s]
    show some (wa_aI _ _ _) = some (wa_aI _ _ _)
    congr 2
    funext z
    simp [wa_g, wa_s]
  · rw [wa_up_n h]
    match a, b, h with
    | 6, 3, h => exact absurd ⟨rfl, rfl⟩ h
    | 6, 0, _ => rfl
    | 6, 1, _ => rfl
    | 6, 2, _ => rfl
    | 6, 4, _ => rfl
    | 6, 5, _ => rfl
    | 6, 6, _ => rfl
    | 6, 7, _ => rfl
    | 6, 8, _ => rfl
    | 6, 9, _ => rfl
    | 6, 10, _ => rfl
    | 6, 11, _ => rfl
    | 6, 12, _ => rfl
    | 6, 13, _ => rfl
    | 6, 14, _ => rfl
    | 6, 15, _ => rfl
    | 6, 16, _ => rfl
    | 6, 17, _ => rfl
    | 6, 18, _ => rfl
    | 6, 19, _ => rfl
    | 6, 20, _ => rfl
    | 6, 21, _ => rfl
    | 6, 22, _ => rfl
    | 6, 23, _ => rfl
    | 6, 24, _ => rfl
    | 6, 25, _ => rfl
    | 6, 26, _ => rfl
    | 6, 27, _ => rfl
    | 6, 28, _ => rfl
    | 6, 29, _ => rfl
    | 6, 30, _ => rfl
    | 6, 31, _ => rfl
    | 6, n + 32, _ => rfl
    | 0, _, _ => rfl
    | 1, _, _ => rfl
    | 2, _, _ => rfl
    | 3, _, _ => rfl
    | 4, _, _ => rfl
    | 5, _, _ => rfl
    | 7, _, _ => rfl
    | n + 8, _, _ => rfl
theorem wm_a4 (cy : Nat → ClassId) (ad : Nat → Nat → Nat) (S X T : wa_St) (o : Int64) (j : Nat) (v : Int) : wa_up (wW cy ad S X T o) 6 4 (wa_aI (cy 0) 10 (wa_g (T 4) j v)) = wW cy ad S X (wa_s T 4 j v) o := by
  funext a b
  by_cases h : a = 6 ∧ b = 4
  · obtain ⟨rfl, rfl⟩ := h
    rw [wa_up_s]
    show some (wa_aI _ _ _) = some (wa_aI _ _ _)
    congr 2
    funext z
    simp [wa_g, wa_s]
  · rw [wa_up_n h]
    match a, b, h with
    | 6, 4, h => exact absurd ⟨rfl, rfl⟩ h
    | 6, 0, _ => rfl
    | 6, 1, _ => rfl
    | 6, 2, _ => rfl
    | 6, 3, _ => rfl
    | 6, 5, _ => rfl
    | 6, 6, _ => rfl
    | 6, 7, _ => rfl
    | 6, 8, _ => rfl
    | 6, 9, _ => rfl
    | 6, 10, _ => rfl
    | 6, 11, _ => rfl
    | 6, 12, _ => rfl
    | 6, 13, _ => rfl
    | 6, 14, _ => rfl
    | 6, 15, _ => rfl
    | 6, 16, _ => rfl
    | 6, 17, _ => rfl
    | 6, 18, _ => rfl
    | 6, 19, _ => rfl
    | 6, 20, _ => rfl
    | 6, 21, _ => rfl
    | 6, 22, _ => rfl
    | 6, 23, _ => rfl
    | 6, 24, _ => rfl
    | 6, 25, _ => rfl
    | 6, 26, _ => rfl
    | 6, 27, _ => rfl
    | 6, 28, _ => rfl
    | 6, 29, _ => rfl
    | 6, 30, _ => rfl
    | 6, 31, _ => rfl
    | 6, n + 32, _ => rfl
    | 0, _, _ => rfl
    | 1, _, _ => rfl
    | 2, _, _ => rfl
    | 3, _, _ => rfl
    | 4, _, _ => rfl
    | 5, _, _ => rfl
    | 7, _, _ => rfl
    | n + 8, _, _ => rfl
theorem wm_a5 (cy : Nat → ClassId) (ad : Nat → Nat → Nat) (S X T : wa_St) (o : Int64) (j : Nat) (v : Int) : wa_up (wW cy ad S X T o) 6 5 (wa_aI (cy 0) 50 (wa_g (T 5) j v)) = wW cy ad S X (wa_s T 5 j v) o := by
  funext a b
  by_cases h : a = 6 ∧ b = 5
  · obtain ⟨rfl, rfl⟩ := h
    rw [wa_up_s]
    show some (wa_aI _ _ _) = some (wa_aI _ _ _)
    congr 2
    funext z
    simp [wa_g, wa_s]
  · rw [wa_up_n h]
    match a, b, h with
    | 6, 5, h => exact absurd ⟨rfl, rfl⟩ h
    | 6, 0, _ => rfl
    | 6, 1, _ => rfl
    | 6, 2, _ => rfl
    | 6, 3, _ => rfl
    | 6, 4, _ => rfl
    | 6, 6, _ => rfl
    | 6, 7, _ => rfl
    | 6, 8, _ => rfl
    | 6, 9, _ => rfl
    | 6, 10, _ => rfl
    | 6, 11, _ => rfl
    | 6, 12, _ => rfl
    | 6, 13, _ => rfl
    | 6, 14, _ => rfl
    | 6, 15, _ => rfl
    | 6, 16, _ => rfl
    | 6, 17, _ => rfl
    | 6, 18, _ => rfl
    | 6, 19, _ => rfl
    | 6, 20, _ => rfl
    | 6, 21, _ => rfl
    | 6, 22, _ => rfl
    | 6, 23, _ => rfl
    | 6, 24, _ => rfl
    | 6, 25, _ => rfl
    | 6, 26, _ => rfl
    | 6, 27, _ => rfl
    | 6, 28, _ => rfl
    | 6, 29, _ => rfl
    | 6, 30, _ => rfl
    | 6, 31, _ => rfl
    | 6, n + 32, _ => rfl
    | 0, _, _ => rfl
    | 1, _, _ => rfl
    | 2, _, _ => rfl
    | 3, _, _ => rfl
    | 4, _, _ => rfl
    | 5, _, _ => rfl
    | 7, _, _ => rfl
    | n + 8, _, _ => rfl
theorem wm_a6 (cy : Nat → ClassId) (ad : Nat → Nat → Nat) (S X T : wa_St) (o : Int64) (j : Nat) (v : Int) : wa_up (wW cy ad S X T o) 6 6 (wa_aI (cy 0) 10 (wa_g (T 6) j v)) = wW cy ad S X (wa_s T 6 j v) o := by
  funext a b
  by_cases h : a = 6 ∧ b = 6
  · obtain ⟨rfl, rfl⟩ := h
    rw [wa_up_s]
    show some (wa_aI _ _ _) = some (wa_aI _ _ _)
    congr 2
    funext z
    simp [wa_g, wa_s]
  · rw [wa_up_n h]
    match a, b, h with
    | 6, 6, h => exact absurd ⟨rfl, rfl⟩ h
    | 6, 0, _ => rfl
    | 6, 1, _ => rfl
    | 6, 2, _ => rfl
    | 6, 3, _ => rfl
    | 6, 4, _ => rfl
    | 6, 5, _ => rfl
    | 6, 7, _ => rfl
    | 6, 8, _ => rfl
    | 6, 9, _ => rfl
    | 6, 10, _ => rfl
    | 6, 11, _ => rfl
    | 6, 12, _ => rfl
    | 6, 13, _ => rfl
    | 6, 14, _ => rfl
    | 6, 15, _ => rfl
    | 6, 16, _ => rfl
    | 6, 17, _ => rfl
    | 6, 18, _ => rfl
    | 6, 19, _ => rfl
    | 6, 20, _ => rfl
    | 6, 21, _ => rfl
    | 6, 22, _ => rfl
    | 6, 23, _ => rfl
    | 6, 24, _ => rfl
    | 6, 25, _ => rfl
    | 6, 26, _ => rfl
    | 6, 27, _ => rfl
    | 6, 28, _ => rfl
    | 6, 29, _ => rfl
    | 6, 30, _ => rfl
    | 6, 31, _ => rfl
    | 6, n + 32, _ => rfl
    | 0, _, _ => rfl
    | 1, _, _ => rfl
    | 2, _, _ => rfl
    | 3, _, _ => rfl
    | 4, _, _ => rfl
    | 5, _, _ => rfl
    | 7, _, _ => rfl
    | n + 8, _, _ => rfl
theorem wm_a7 (cy : Nat → ClassId) (ad : Nat → Nat → Nat) (S X T : wa_St) (o : Int64) (j : Nat) (v : Int) : wa_up (wW cy ad S X T o) 6 7 (wa_aI (cy 0) 10 (wa_g (T 7) j v)) = wW cy ad S X (wa_s T 7 j v) o := by
  funext a b
  by_cases h : a = 6 ∧ b = 7
  · obtain ⟨rfl, rfl⟩ := h
    rw [wa_up_s]
    show some (wa_aI _ _ _) = some (wa_aI _ _ _)
    congr 2
    funext z
    simp [wa_g, wa_s]
  · rw [wa_up_n h]
    match a, b, h with
    | 6, 7, h => exact absurd ⟨rfl, rfl⟩ h
    | 6, 0, _ => rfl
    | 6, 1, _ => rfl
    | 6, 2, _ => rfl
    | 6, 3, _ => rfl
    | 6, 4, _ => rfl
    | 6, 5, _ => rfl
    | 6, 6, _ => rfl
    | 6, 8, _ => rfl
    | 6, 9, _ => rfl
    | 6, 10, _ => rfl
    | 6, 11, _ => rfl
    | 6, 12, _ => rfl
    | 6, 13, _ => rfl
    | 6, 14, _ => rfl
    | 6, 15, _ => rfl
    | 6, 16, _ => rfl
    | 6, 17, _ => rfl
    | 6, 18, _ => rfl
    | 6, 19, _ => rfl
    | 6, 20, _ => rfl
    | 6, 21, _ => rfl
    | 6, 22, _ => rfl
    | 6, 23, _ => rfl
    | 6, 24, _ => rfl
    | 6, 25, _ => rfl
    | 6, 26, _ => rfl
    | 6, 27, _ => rfl
    | 6, 28, _ => rfl
    | 6, 29, _ => rfl
    | 6, 30, _ => rfl
    | 6, 31, _ => rfl
    | 6, n + 32, _ => rfl
    | 0, _, _ => rfl
    | 1, _, _ => rfl
    | 2, _, _ => rfl
    | 3, _, _ => rfl
    | 4, _, _ => rfl
    | 5, _, _ => rfl
    | 7, _, _ => rfl
    | n + 8, _, _ => rfl
theorem wm_a9 (cy : Nat → ClassId) (ad : Nat → Nat → Nat) (S X T : wa_St) (o : Int64) (j : Nat) (v : Int) : wa_up (wW cy ad S X T o) 6 9 (wa_aI (cy 0) 300 (wa_g (T 9) j v)) = wW cy ad S X (wa_s T 9 j v) o := by
  funext a b
  by_cases h : a = 6 ∧ b = 9
  · obtain ⟨rfl, rfl⟩ := h
    rw [wa_up_s]
    show some (wa_aI _ _ _) = some (wa_aI _ _ _)
    congr 2
    funext z
    simp [wa_g, wa_s]
  · rw [wa_up_n h]
    match a, b, h with
    | 6, 9, h => exact absurd ⟨rfl, rfl⟩ h
    | 6, 0, _ => rfl
    | 6, 1, _ => rfl
    | 6, 2, _ => rfl
    | 6, 3, _ => rfl
    | 6, 4, _ => rfl
    | 6, 5, _ => rfl
    | 6, 6, _ => rfl
    | 6, 7, _ => rfl
    | 6, 8, _ => rfl
    | 6, 10, _ => rfl
    | 6, 11, _ => rfl
    | 6, 12, _ => rfl
    | 6, 13, _ => rfl
    | 6, 14, _ => rfl
    | 6, 15, _ => rfl
    | 6, 16, _ => rfl
    | 6, 17, _ => rfl
    | 6, 18, _ => rfl
    | 6, 19, _ => rfl
    | 6, 20, _ => rfl
    | 6, 21, _ => rfl
    | 6, 22, _ => rfl
    | 6, 23, _ => rfl
    | 6, 24, _ => rfl
    | 6, 25, _ => rfl
    | 6, 26, _ => rfl
    | 6, 27, _ => rfl
    | 6, 28, _ => rfl
    | 6, 29, _ => rfl
    | 6, 30, _ => rfl
    | 6, 31, _ => rfl
    | 6, n + 32, _ => rfl
    | 0, _, _ => rfl
    | 1, _, _ => rfl
    | 2, _, _ => rfl
    | 3, _, _ => rfl
    | 4, _, _ => rfl
    | 5, _, _ => rfl
    | 7, _, _ => rfl
    | n + 8, _, _ => rfl
theorem wm_a10 (cy : Nat → ClassId) (ad : Nat → Nat → Nat) (S X T : wa_St) (o : Int64) (j : Nat) (v : Int) : wa_up (wW cy ad S X T o) 6 10 (wa_aI (cy 0) 300 (wa_g (T 10) j v)) = wW cy ad S X (wa_s T 10 j v) o := by
  funext a b
  by_cases h : a = 6 ∧ b = 10
  · obtain ⟨rfl, rfl⟩ := h
    rw [wa_up_s]
    show some (wa_aI _ _ _) = some (wa_aI _ _ _)
    congr 2
    funext z
    simp [wa_g, wa_s]
  · rw [wa_up_n h]
    match a, b, h with
    | 6, 10, h => exact absurd ⟨rfl, rfl⟩ h
    | 6, 0, _ => rfl
    | 6, 1, _ => rfl
    | 6, 2, _ => rfl
    | 6, 3, _ => rfl
    | 6, 4, _ => rfl
    | 6, 5, _ => rfl
    | 6, 6, _ => rfl
    | 6, 7, _ => rfl
    | 6, 8, _ => rfl
    | 6, 9, _ => rfl
    | 6, 11, _ => rfl
    | 6, 12, _ => rfl
    | 6, 13, _ => rfl
    | 6, 14, _ => rfl
    | 6, 15, _ => rfl
    | 6, 16, _ => rfl
    | 6, 17, _ => rfl
    | 6, 18, _ => rfl
    | 6, 19, _ => rfl
    | 6, 20, _ => rfl
    | 6, 21, _ => rfl
    | 6, 22, _ => rfl
    | 6, 23, _ => rfl
    | 6, 24, _ => rfl
    | 6, 25, _ => rfl
    | 6, 26, _ => rfl
    | 6, 27, _ => rfl
    | 6, 28, _ => rfl
    | 6, 29, _ => rfl
    | 6, 30, _ => rfl
    | 6, 31, _ => rfl
    | 6, n + 32, _ => rfl
    | 0, _, _ => rfl
    | 1, _, _ => rfl
    | 2, _, _ => rfl
    | 3, _, _ => rfl
    | 4, _, _ => rfl
    | 5, _, _ => rfl
    | 7, _, _ => rfl
    | n + 8, _, _ => rfl
theorem wm_a11 (cy : Nat → ClassId) (ad : Nat → Nat → Nat) (S X T : wa_St) (o : Int64) (j : Nat) (v : Int) : wa_up (wW cy ad S X T o) 6 11 (wa_aI (cy 0) 300 (wa_g (T 11) j v)) = wW cy ad S X (wa_s T 11 j v) o := by
  funext a b
  by_cases h : a = 6 ∧ b = 11
  · obtain ⟨rfl, rfl⟩ := h
    rw [wa_up_s]
    show some (wa_aI _ _ _) = some (wa_aI _ _ _)
    congr 2
    funext z
    simp [wa_g, wa_s]
  · rw [wa_up_n h]
    match a, b, h with
    | 6, 11, h => exact absurd ⟨rfl, rfl⟩ h
    | 6, 0, _ => rfl
    | 6, 1, _ => rfl
    | 6, 2, _ => rfl
    | 6, 3, _ => rfl
    | 6, 4, _ => rfl
    | 6, 5, _ => rfl
    | 6, 6, _ => rfl
    | 6, 7, _ => rfl
    | 6, 8, _ => rfl
    | 6, 9, _ => rfl
    | 6, 10, _ => rfl
    | 6, 12, _ => rfl
    | 6, 13, _ => rfl
    | 6, 14, _ => rfl
    | 6, 15, _ => rfl
    | 6, 16, _ => rfl
    | 6, 17, _ => rfl
    | 6, 18, _ => rfl
    | 6, 19, _ => rfl
    | 6, 20, _ => rfl
    | 6, 21, _ => rfl
    | 6, 22, _ => rfl
    | 6, 23, _ => rfl
    | 6, 24, _ => rfl
    | 6, 25, _ => rfl
    | 6, 26, _ => rfl
    | 6, 27, _ => rfl
    | 6, 28, _ => rfl
    | 6, 29, _ => rfl
    | 6, 30, _ => rfl
    | 6, 31, _ => rfl
    | 6, n + 32, _ => rfl
    | 0, _, _ => rfl
    | 1, _, _ => rfl
    | 2, _, _ => rfl
    | 3, _, _ => rfl
    | 4, _, _ => rfl
    | 5, _, _ => rfl
    | 7, _, _ => rfl
    | n + 8, _, _ => rfl
theorem wm_a13 (cy : Nat → ClassId) (ad : Nat → Nat → Nat) (S X T : wa_St) (o : Int64) (j : Nat) (v : Int) : wa_up (wW cy ad S X T o) 6 13 (wa_aI (cy 0) 60 (wa_g (T 13) j v)) = wW cy ad S X (wa_s T 13 j v) o := by
  funext a b
  by_cases h : a = 6 ∧ b = 13
  · obtain ⟨rfl, rfl⟩ := h
    rw [wa_up_s]
    show some (wa_aI _ _ _) = some (wa_aI _ _ _)
    congr 2
    funext z
    simp [wa_g, wa_s]
  · rw [wa_up_n h]
    match a, b, h with
    | 6, 13, h => exact absurd ⟨rfl, rfl⟩ h
    | 6, 0, _ => rfl
    | 6, 1, _ => rfl
    | 6, 2, _ => rfl
    | 6, 3, _ => rfl
    | 6, 4, _ => rfl
    | 6, 5, _ => rfl
    | 6, 6, _ => rfl
    | 6, 7, _ => rfl
    | 6, 8, _ => rfl
    | 6, 9, _ => rfl
    | 6, 10, _ => rfl
    | 6, 11, _ => rfl
    | 6, 12, _ => rfl
    | 6, 14, _ => rfl
    | 6, 15, _ => rfl
    | 6, 16, _ => rfl
    | 6, 17, _ => rfl
    | 6, 18, _ => rfl
    | 6, 19, _ => rfl
    | 6, 20, _ => rfl
    | 6, 21, _ => rfl
    | 6, 22, _ => rfl
    | 6, 23, _ => rfl
    | 6, 24, _ => rfl
    | 6, 25, _ => rfl
    | 6, 26, _ => rfl
    | 6, 27, _ => rfl
    | 6, 28, _ => rfl
    | 6, 29, _ => rfl
    | 6, 30, _ => rfl
    | 6, 31, _ => rfl
    | 6, n + 32, _ => rfl
    | 0, _, _ => rfl
    | 1, _, _ => rfl
    | 2, _, _ => rfl
    | 3, _, _ => rfl
    | 4, _, _ => rfl
    | 5, _, _ => rfl
    | 7, _, _ => rfl
    | n + 8, _, _ => rfl
theorem wm_a14 (cy : Nat → ClassId) (ad : Nat → Nat → Nat) (S X T : wa_St) (o : Int64) (j : Nat) (v : Int) : wa_up (wW cy ad S X T o) 6 14 (wa_aI (cy 0) 60 (wa_g (T 14) j v)) = wW cy ad S X (wa_s T 14 j v) o := by
  funext a b
  by_cases h : a = 6 ∧ b = 14
  · obtain ⟨rfl, rfl⟩ := h
    rw [wa_up_s]
    show some (wa_aI _ _ _) = some (wa_aI _ _ _)
    congr 2
    funext z
    simp [wa_g, wa_s]
  · rw [wa_up_n h]
    match a, b, h with
    | 6, 14, h => exact absurd ⟨rfl, rfl⟩ h
    | 6, 0, _ => rfl
    | 6, 1, _ => rfl
    | 6, 2, _ => rfl
    | 6, 3, _ => rfl
    | 6, 4, _ => rfl
    | 6, 5, _ => rfl
    | 6, 6, _ => rfl
    | 6, 7, _ => rfl
    | 6, 8, _ => rfl
    | 6, 9, _ => rfl
    | 6, 10, _ => rfl
    | 6, 11, _ => rfl
    | 6, 12, _ => rfl
    | 6, 13, _ => rfl
    | 6, 15, _ => rfl
    | 6, 16, _ => rfl
    | 6, 17, _ => rfl
    | 6, 18, _ => rfl
    | 6, 19, _ => rfl
    | 6, 20, _ => rfl
    | 6, 21, _ => rfl
    | 6, 22, _ => rfl
    | 6, 23, _ => rfl
    | 6, 24, _ => rfl
    | 6, 25, _ => rfl
    | 6, 26, _ => rfl
    | 6, 27, _ => rfl
    | 6, 28, _ => rfl
    | 6, 29, _ => rfl
    | 6, 30, _ => rfl
    | 6, 31, _ => rfl
    | 6, n + 32, _ => rfl
    | 0, _, _ => rfl
    | 1, _, _ => rfl
    | 2, _, _ => rfl
    | 3, _, _ => rfl
    | 4, _, _ => rfl
    | 5, _, _ => rfl
    | 7, _, _ => rfl
    | n + 8, _, _ => rfl
theorem wm_a15 (cy : Nat → ClassId) (ad : Nat → Nat → Nat) (S X T : wa_St) (o : Int64) (j : Nat) (v : Int) : wa_up (wW cy ad S X T o) 6 15 (wa_aI (cy 0) 60 (wa_g (T 15) j v)) = wW cy ad S X (wa_s T 15 j v) o := by
  funext a b
  by_cases h : a = 6 ∧ b = 15
  · obtain ⟨rfl, rfl⟩ := h
    rw [wa_up_s]
    show some (wa_aI _ _ _) = some (wa_aI _ _ _)
    congr 2
    funext z
    simp [wa_g, wa_s]
  · rw [wa_up_n h]
    match a, b, h with
    | 6, 15, h => exact absurd ⟨rfl, rfl⟩ h
    | 6, 0, _ => rfl
    | 6, 1, _ => rfl
    | 6, 2, _ => rfl
    | 6, 3, _ => rfl
    | 6, 4, _ => rfl
    | 6, 5, _ => rfl
    | 6, 6, _ => rfl
    | 6, 7, _ => rfl
    | 6, 8, _ => rfl
    | 6, 9, _ => rfl
    | 6, 10, _ => rfl
    | 6, 11, _ => rfl
    | 6, 12, _ => rfl
    | 6, 13, _ => rfl
    | 6, 14, _ => rfl
    | 6, 16, _ => rfl
    | 6, 17, _ => rfl
    | 6, 18, _ => rfl
    | 6, 19, _ => rfl
    | 6, 20, _ => rfl
    | 6, 21, _ => rfl
    | 6, 22, _ => rfl
    | 6, 23, _ => rfl
    | 6, 24, _ => rfl
    | 6, 25, _ => rfl
    | 6, 26, _ => rfl
    | 6, 27, _ => rfl
    | 6, 28, _ => rfl
    | 6, 29, _ => rfl
    | 6, 30, _ => rfl
    | 6, 31, _ => rfl
    | 6, n + 32, _ => rfl
    | 0, _, _ => rfl
    | 1, _, _ => rfl
    | 2, _, _ => rfl
    | 3, _, _ => rfl
    | 4, _, _ => rfl
    | 5, _, _ => rfl
    | 7, _, _ => rfl
    | n + 8, _, _ => rfl
theorem wm_a16 (cy : Nat → ClassId) (ad : Nat → Nat → Nat) (S X T : wa_St) (o : Int64) (j : Nat) (v : Int) : wa_up (wW cy ad S X T o) 6 16 (wa_aI (cy 0) 60 (wa_g (T 16) j v)) = wW cy ad S X (wa_s T 16 j v) o := by
  funext a b
  by_cases h : a = 6 ∧ b = 16
  · obtain ⟨rfl, rfl⟩ := h
    rw [wa_up_s]
    show some (wa_aI _ _ _) = some (wa_aI _ _ _)
    congr 2
    funext z
    simp [wa_g, wa_s]
  · rw [wa_up_n h]
    match a, b, h with
    | 6, 16, h => exact absurd ⟨rfl, rfl⟩ h
    | 6, 0, _ => rfl
    | 6, 1, _ => rfl
    | 6, 2, _ => rfl
    | 6, 3, _ => rfl
    | 6, 4, _ => rfl
    | 6, 5, _ => rfl
    | 6, 6, _ => rfl
    | 6, 7, _ => rfl
    | 6, 8, _ => rfl
    | 6, 9, _ => rfl
    | 6, 10, _ => rfl
    | 6, 11, _ => rfl
    | 6, 12, _ => rfl
    | 6, 13, _ => rfl
    | 6, 14, _ => rfl
    | 6, 15, _ => rfl
    | 6, 17, _ => rfl
    | 6, 18, _ => rfl
    | 6, 19, _ => rfl
    | 6, 20, _ => rfl
    | 6, 21, _ => rfl
    | 6, 22, _ => rfl
    | 6, 23, _ => rfl
    | 6, 24, _ => rfl
    | 6, 25, _ => rfl
    | 6, 26, _ => rfl
    | 6, 27, _ => rfl
    | 6, 28, _ => rfl
    | 6, 29, _ => rfl
    | 6, 30, _ => rfl
    | 6, 31, _ => rfl
    | 6, n + 32, _ => rfl
    | 0, _, _ => rfl
    | 1, _, _ => rfl
    | 2, _, _ => rfl
    | 3, _, _ => rfl
    | 4, _, _ => rfl
    | 5, _, _ => rfl
    | 7, _, _ => rfl
    | n + 8, _, _ => rfl
theorem wm_a17 (cy : Nat → ClassId) (ad : Nat → Nat → Nat) (S X T : wa_St) (o : Int64) (j : Nat) (v : Int) : wa_up (wW cy ad S X T o) 6 17 (wa_aI (cy 1) 60 (wa_g (T 17) j v)) = wW cy ad S X (wa_s T 17 j v) o := by
  funext a b
  by_cases h : a = 6 ∧ b = 17
  · obtain ⟨rfl, rfl⟩ := h
    rw [wa_up_s]
    show some (wa_aI _ _ _) = some (wa_aI _ _ _)
    congr 2
    funext z
    simp [wa_g, wa_s]
  · rw [wa_up_n h]
    match a, b, h with
    | 6, 17, h => exact absurd ⟨rfl, rfl⟩ h
    | 6, 0, _ => rfl
    | 6, 1, _ => rfl
    | 6, 2, _ => rfl
    | 6, 3, _ => rfl
    | 6, 4, _ => rfl
    | 6, 5, _ => rfl
    | 6, 6, _ => rfl
    | 6, 7, _ => rfl
    | 6, 8, _ => rfl
    | 6, 9, _ => rfl
    | 6, 10, _ => rfl
    | 6, 11, _ => rfl
    | 6, 12, _ => rfl
    | 6, 13, _ => rfl
    | 6, 14, _ => rfl
    | 6, 15, _ => rfl
    | 6, 16, _ => rfl
    | 6, 18, _ => rfl
    | 6, 19, _ => rfl
    | 6, 20, _ => rfl
    | 6, 21, _ => rfl
    | 6, 22, _ => rfl
    | 6, 23, _ => rfl
    | 6, 24, _ => rfl
    | 6, 25, _ => rfl
    | 6, 26, _ => rfl
    | 6, 27, _ => rfl
    | 6, 28, _ => rfl
    | 6, 29, _ => rfl
    | 6, 30, _ => rfl
    | 6, 31, _ => rfl
    | 6, n + 32, _ => rfl
    | 0, _, _ => rfl
    | 1, _, _ => rfl
    | 2, _, _ => rfl
    | 3, _, _ => rfl
    | 4, _, _ => rfl
    | 5, _, _ => rfl
    | 7, _, _ => rfl
    | n + 8, _, _ => rfl
theorem wm_a18 (cy : Nat → ClassId) (ad : Nat → Nat → Nat) (S X T : wa_St) (o : Int64) (j : Nat) (v : Int) : wa_up (wW cy ad S X T o) 6 18 (wa_aI (cy 1) 60 (wa_g (T 18) j v)) = wW cy ad S X (wa_s T 18 j v) o := by
  funext a b
  by_cases h : a = 6 ∧ b = 18
  · obtain ⟨rfl, rfl⟩ := h
    rw [wa_up_s]
    show some (wa_aI _ _ _) = some (wa_aI _ _ _)
    congr 2
    funext z
    simp [wa_g, wa_s]
  · rw [wa_up_n h]
    match a, b, h with
    | 6, 18, h => exact absurd ⟨rfl, rfl⟩ h
    | 6, 0, _ => rfl
    | 6, 1, _ => rfl
    | 6, 2, _ => rfl
    | 6, 3, _ => rfl
    | 6, 4, _ => rfl
    | 6, 5, _ => rfl
    | 6, 6, _ => rfl
    | 6, 7, _ => rfl
    | 6, 8, _ => rfl
    | 6, 9, _ => rfl
    | 6, 10, _ => rfl
    | 6, 11, _ => rfl
    | 6, 12, _ => rfl
    | 6, 13, _ => rfl
    | 6, 14, _ => rfl
    | 6, 15, _ => rfl
    | 6, 16, _ => rfl
    | 6, 17, _ => rfl
    | 6, 19, _ => rfl
    | 6, 20, _ => rfl
    | 6, 21, _ => rfl
    | 6, 22, _ => rfl
    | 6, 23, _ => rfl
    | 6, 24, _ => rfl
    | 6, 25, _ => rfl
    | 6, 26, _ => rfl
    | 6, 27, _ => rfl
    | 6, 28, _ => rfl
    | 6, 29, _ => rfl
    | 6, 30, _ => rfl
    | 6, 31, _ => rfl
    | 6, n + 32, _ => rfl
    | 0, _, _ => rfl
    | 1, _, _ => rfl
    | 2, _, _ => rfl
    | 3, _, _ => rfl
    | 4, _, _ => rfl
    | 5, _, _ => rfl
    | 7, _, _ => rfl
    | n + 8, _, _ => rfl
theorem wm_a19 (cy : Nat → ClassId) (ad : Nat → Nat → Nat) (S X T : wa_St) (o : Int64) (j : Nat) (v : Int) : wa_up (wW cy ad S X T o) 6 19 (wa_aI (cy 1) 60 (wa_g (T 19) j v)) = wW cy ad S X (wa_s T 19 j v) o := by
  funext a b
  by_cases h : a = 6 ∧ b = 19
  · obtain ⟨rfl, rfl⟩ := h
    rw [wa_up_s]
    show some (wa_aI _ _ _) = some (wa_aI _ _ _)
    congr 2
    funext z
    simp [wa_g, wa_s]
  · rw [wa_up_n h]
    match a, b, h with
    | 6, 19, h => exact absurd ⟨rfl, rfl⟩ h
    | 6, 0, _ => rfl
    | 6, 1, _ => rfl
    | 6, 2, _ => rfl
    | 6, 3, _ => rfl
    | 6, 4, _ => rfl
    | 6, 5, _ => rfl
    | 6, 6, _ => rfl
    | 6, 7, _ => rfl
    | 6, 8, _ => rfl
    | 6, 9, _ => rfl
    | 6, 10, _ => rfl
    | 6, 11, _ => rfl
    | 6, 12, _ => rfl
    | 6, 13, _ => rfl
    | 6, 14, _ => rfl
    | 6, 15, _ => rfl
    | 6, 16, _ => rfl
    | 6, 17, _ => rfl
    | 6, 18, _ => rfl
    | 6, 20, _ => rfl
    | 6, 21, _ => rfl
    | 6, 22, _ => rfl
    | 6, 23, _ => rfl
    | 6, 24, _ => rfl
    | 6, 25, _ => rfl
    | 6, 26, _ => rfl
    | 6, 27, _ => rfl
    | 6, 28, _ => rfl
    | 6, 29, _ => rfl
    | 6, 30, _ => rfl
    | 6, 31, _ => rfl
    | 6, n + 32, _ => rfl
    | 0, _, _ => rfl
    | 1, _, _ => rfl
    | 2, _, _ => rfl
    | 3, _, _ => rfl
    | 4, _, _ => rfl
    | 5, _, _ => rfl
    | 7, _, _ => rfl
    | n + 8, _, _ => rfl
theorem wm_a20 (cy : Nat → ClassId) (ad : Nat → Nat → Nat) (S X T : wa_St) (o : Int64) (j : Nat) (v : Int) : wa_up (wW cy ad S X T o) 6 20 (wa_aI (cy 0) 180 (wa_g (T 20) j v)) = wW cy ad S X (wa_s T 20 j v) o := by
  funext a b
  by_cases h : a = 6 ∧ b = 20
  · obtain ⟨rfl, rfl⟩ := h
    rw [wa_up_s]
    show some (wa_aI _ _ _) = some (wa_aI _ _ _)
    congr 2
    funext z
    simp [wa_g, wa_s]
  · rw [wa_up_n h]
    match a, b, h with
    | 6, 20, h => exact absurd ⟨rfl, rfl⟩ h
    | 6, 0, _ => rfl
    | 6, 1, _ => rfl
    | 6, 2, _ => rfl
    | 6, 3, _ => rfl
    | 6, 4, _ => rfl
    | 6, 5, _ => rfl
    | 6, 6, _ => rfl
    | 6, 7, _ => rfl
    | 6, 8, _ => rfl
    | 6, 9, _ => rfl
    | 6, 10, _ => rfl
    | 6, 11, _ => rfl
    | 6, 12, _ => rfl
    | 6, 13, _ => rfl
    | 6, 14, _ => rfl
    | 6, 15, _ => rfl
    | 6, 16, _ => rfl
    | 6, 17, _ => rfl
    | 6, 18, _ => rfl
    | 6, 19, _ => rfl
    | 6, 21, _ => rfl
    | 6, 22, _ => rfl
    | 6, 23, _ => rfl
    | 6, 24, _ => rfl
    | 6, 25, _ => rfl
    | 6, 26, _ => rfl
    | 6, 27, _ => rfl
    | 6, 28, _ => rfl
    | 6, 29, _ => rfl
    | 6, 30, _ => rfl
    | 6, 31, _ => rfl
    | 6, n + 32, _ => rfl
    | 0, _, _ => rfl
    | 1, _, _ => rfl
    | 2, _, _ => rfl
    | 3, _, _ => rfl
    | 4, _, _ => rfl
    | 5, _, _ => rfl
    | 7, _, _ => rfl
    | n + 8, _, _ => rfl
theorem wm_a22 (cy : Nat → ClassId) (ad : Nat → Nat → Nat) (S X T : wa_St) (o : Int64) (j : Nat) (v : Int) : wa_up (wW cy ad S X T o) 6 22 (wa_aI (cy 0) 3 (wa_g (T 22) j v)) = wW cy ad S X (wa_s T 22 j v) o := by
  funext a b
  by_cases h : a = 6 ∧ b = 22
  · obtain ⟨rfl, rfl⟩ := h
    rw [wa_up_s]
    show some (wa_aI _ _ _) = some (wa_aI _ _ _)
    congr 2
    funext z
    simp [wa_g, wa_s]
  · rw [wa_up_n h]
    match a, b, h with
    | 6, 22, h => exact absurd ⟨rfl, rfl⟩ h
    | 6, 0, _ => rfl
    | 6, 1, _ => rfl
    | 6, 2, _ => rfl
    | 6, 3, _ => rfl
    | 6, 4, _ => rfl
    | 6, 5, _ => rfl
    | 6, 6, _ => rfl
    | 6, 7, _ => rfl
    | 6, 8, _ => rfl
    | 6, 9, _ => rfl
    | 6, 10, _ => rfl
    | 6, 11, _ => rfl
    | 6, 12, _ => rfl
    | 6, 13, _ => rfl
    | 6, 14, _ => rfl
    | 6, 15, _ => rfl
    | 6, 16, _ => rfl
    | 6, 17, _ => rfl
    | 6, 18, _ => rfl
    | 6, 19, _ => rfl
    | 6, 20, _ => rfl
    | 6, 21, _ => rfl
    | 6, 23, _ => rfl
    | 6, 24, _ => rfl
    | 6, 25, _ => rfl
    | 6, 26, _ => rfl
    | 6, 27, _ => rfl
    | 6, 28, _ => rfl
    | 6, 29, _ => rfl
    | 6, 30, _ => rfl
    | 6, 31, _ => rfl
    | 6, n + 32, _ => rfl
    | 0, _, _ => rfl
    | 1, _, _ => rfl
    | 2, _, _ => rfl
    | 3, _, _ => rfl
    | 4, _, _ => rfl
    | 5, _, _ => rfl
    | 7, _, _ => rfl
    | n + 8, _, _ => rfl
theorem wm_a25 (cy : Nat → ClassId) (ad : Nat → Nat → Nat) (S X T : wa_St) (o : Int64) (j : Nat) (v : Int) : wa_up (wW cy ad S X T o) 6 25 (wa_aI (cy 0) 30 (wa_g (T 25) j v)) = wW cy ad S X (wa_s T 25 j v) o := by
  funext a b
  by_cases h : a = 6 ∧ b = 25
  · obtain ⟨rfl, rfl⟩ := h
    rw [wa_up_s]
    show some (wa_aI _ _ _) = some (wa_aI _ _ _)
    congr 2
    funext z
    simp [wa_g, wa_s]
  · rw [wa_up_n h]
    match a, b, h with
    | 6, 25, h => exact absurd ⟨rfl, rfl⟩ h
    | 6, 0, _ => rfl
    | 6, 1, _ => rfl
    | 6, 2, _ => rfl
    | 6, 3, _ => rfl
    | 6, 4, _ => rfl
    | 6, 5, _ => rfl
    | 6, 6, _ => rfl
    | 6, 7, _ => rfl
    | 6, 8, _ => rfl
    | 6, 9, _ => rfl
    | 6, 10, _ => rfl
    | 6, 11, _ => rfl
    | 6, 12, _ => rfl
    | 6, 13, _ => rfl
    | 6, 14, _ => rfl
    | 6, 15, _ => rfl
    | 6, 16, _ => rfl
    | 6, 17, _ => rfl
    | 6, 18, _ => rfl
    | 6, 19, _ => rfl
    | 6, 20, _ => rfl
    | 6, 21, _ => rfl
    | 6, 22, _ => rfl
    | 6, 23, _ => rfl
    | 6, 24, _ => rfl
    | 6, 26, _ => rfl
    | 6, 27, _ => rfl
    | 6, 28, _ => rfl
    | 6, 29, _ => rfl
    | 6, 30, _ => rfl
    | 6, 31, _ => rfl
    | 6, n + 32, _ => rfl
    | 0, _, _ => rfl
    | 1, _, _ => rfl
    | 2, _, _ => rfl
    | 3, _, _ => rfl
    | 4, _, _ => rfl
    | 5, _, _ => rfl
    | 7, _, _ => rfl
    | n + 8, _, _ => rfl
theorem wm_a26 (cy : Nat → ClassId) (ad : Nat → Nat → Nat) (S X T : wa_St) (o : Int64) (j : Nat) (v : Int) : wa_up (wW cy ad S X T o) 6 26 (wa_aI (cy 0) 30 (wa_g (T 26) j v)) = wW cy ad S X (wa_s T 26 j v) o := by
  funext a b
  by_cases h : a = 6 ∧ b = 26
  · obtain ⟨rfl, rfl⟩ := h
    rw [wa_up_s]
    show some (wa_aI _ _ _) = some (wa_aI _ _ _)
    congr 2
    funext z
    simp [wa_g, wa_s]
  · rw [wa_up_n h]
    match a, b, h with
    | 6, 26, h => exact absurd ⟨rfl, rfl⟩ h
    | 6, 0, _ => rfl
    | 6, 1, _ => rfl
    | 6, 2, _ => rfl
    | 6, 3, _ => rfl
    | 6, 4, _ => rfl
    | 6, 5, _ => rfl
    | 6, 6, _ => rfl
    | 6, 7, _ => rfl
    | 6, 8, _ => rfl
    | 6, 9, _ => rfl
    | 6, 10, _ => rfl
    | 6, 11, _ => rfl
    | 6, 12, _ => rfl
    | 6, 13, _ => rfl
    | 6, 14, _ => rfl
    | 6, 15, _ => rfl
    | 6, 16, _ => rfl
    | 6, 17, _ => rfl
    | 6, 18, _ => rfl
    | 6, 19, _ => rfl
    | 6, 20, _ => rfl
    | 6, 21, _ => rfl
    | 6, 22, _ => rfl
    | 6, 23, _ => rfl
    | 6, 24, _ => rfl
    | 6, 25, _ => rfl
    | 6, 27, _ => rfl
    | 6, 28, _ => rfl
    | 6, 29, _ => rfl
    | 6, 30, _ => rfl
    | 6, 31, _ => rfl
    | 6, n + 32, _ => rfl
    | 0, _, _ => rfl
    | 1, _, _ => rfl
    | 2, _, _ => rfl
    | 3, _, _ => rfl
    | 4, _, _ => rfl
    | 5, _, _ => rfl
    | 7, _, _ => rfl
    | n + 8, _, _ => rfl
theorem wm_a27 (cy : Nat → ClassId) (ad : Nat → Nat → Nat) (S X T : wa_St) (o : Int64) (j : Nat) (v : Int) : wa_up (wW cy ad S X T o) 6 27 (wa_aI (cy 0) 30 (wa_g (T 27) j v)) = wW cy ad S X (wa_s T 27 j v) o := by
  funext a b
  by_cases h : a = 6 ∧ b = 27
  · obtain ⟨rfl, rfl⟩ := h
    rw [wa_up_s]
    show some (wa_aI _ _ _) = some (wa_aI _ _ _)
    congr 2
    funext z
    simp [wa_g, wa_s]
  · rw [wa_up_n h]
    match a, b, h with
    | 6, 27, h => exact absurd ⟨rfl, rfl⟩ h
    | 6, 0, _ => rfl
    | 6, 1, _ => rfl
    | 6, 2, _ => rfl
    | 6, 3, _ => rfl
    | 6, 4, _ => rfl
    | 6, 5, _ => rfl
    | 6, 6, _ => rfl
    | 6, 7, _ => rfl
    | 6, 8, _ => rfl
    | 6, 9, _ => rfl
    | 6, 10, _ => rfl
    | 6, 11, _ => rfl
    | 6, 12, _ => rfl
    | 6, 13, _ => rfl
    | 6, 14, _ => rfl
    | 6, 15, _ => rfl
    | 6, 16, _ => rfl
    | 6, 17, _ => rfl
    | 6, 18, _ => rfl
    | 6, 19, _ => rfl
    | 6, 20, _ => rfl
    | 6, 21, _ => rfl
    | 6, 22, _ => rfl
    | 6, 23, _ => rfl
    | 6, 24, _ => rfl
    | 6, 25, _ => rfl
    | 6, 26, _ => rfl
    | 6, 28, _ => rfl
    | 6, 29, _ => rfl
    | 6, 30, _ => rfl
    | 6, 31, _ => rfl
    | 6, n + 32, _ => rfl
    | 0, _, _ => rfl
    | 1, _, _ => rfl
    | 2, _, _ => rfl
    | 3, _, _ => rfl
    | 4, _, _ => rfl
    | 5, _, _ => rfl
    | 7, _, _ => rfl
    | n + 8, _, _ => rfl
theorem wm_a28 (cy : Nat → ClassId) (ad : Nat → Nat → Nat) (S X T : wa_St) (o : Int64) (j : Nat) (v : Int) : wa_up (wW cy ad S X T o) 6 28 (wa_aI (cy 0) 30 (wa_g (T 28) j v)) = wW cy ad S X (wa_s T 28 j v) o := by
  funext a b
  by_cases h : a = 6 ∧ b = 28
  · obtain ⟨rfl, rfl⟩ := h
    rw [wa_up_s]
    show some (wa_aI _ _ _) = some (wa_aI _ _ _)
    congr 2
    funext z
    simp [wa_g, wa_s]
  · rw [wa_up_n h]
    match a, b, h with
    | 6, 28, h => exact absurd ⟨rfl, rfl⟩ h
    | 6, 0, _ => rfl
    | 6, 1, _ => rfl
    | 6, 2, _ => rfl
    | 6, 3, _ => rfl
    | 6, 4, _ => rfl
    | 6, 5, _ => rfl
    | 6, 6, _ => rfl
    | 6, 7, _ => rfl
    | 6, 8, _ => rfl
    | 6, 9, _ => rfl
    | 6, 10, _ => rfl
    | 6, 11, _ => rfl
    | 6, 12, _ => rfl
    | 6, 13, _ => rfl
    | 6, 14, _ => rfl
    | 6, 15, _ => rfl
    | 6, 16, _ => rfl
    | 6, 17, _ => rfl
    | 6, 18, _ => rfl
    | 6, 19, _ => rfl
    | 6, 20, _ => rfl
    | 6, 21, _ => rfl
    | 6, 22, _ => rfl
    | 6, 23, _ => rfl
    | 6, 24, _ => rfl
    | 6, 25, _ => rfl
    | 6, 26, _ => rfl
    | 6, 27, _ => rfl
    | 6, 29, _ => rfl
    | 6, 30, _ => rfl
    | 6, 31, _ => rfl
    | 6, n + 32, _ => rfl
    | 0, _, _ => rfl
    | 1, _, _ => rfl
    | 2, _, _ => rfl
    | 3, _, _ => rfl
    | 4, _, _ => rfl
    | 5, _, _ => rfl
    | 7, _, _ => rfl
    | n + 8, _, _ => rfl
theorem wm_a30 (cy : Nat → ClassId) (ad : Nat → Nat → Nat) (S X T : wa_St) (o : Int64) (j : Nat) (v : Int) : wa_up (wW cy ad S X T o) 6 30 (wa_aI (cy 0) 10 (wa_g (T 30) j v)) = wW cy ad S X (wa_s T 30 j v) o := by
  funext a b
  by_cases h : a = 6 ∧ b = 30
  · obtain ⟨rfl, rfl⟩ := h
    rw [wa_up_s]
    show some (wa_aI _ _ _) = some (wa_aI _ _ _)
    congr 2
    funext z
    simp [wa_g, wa_s]
  · rw [wa_up_n h]
    match a, b, h with
    | 6, 30, h => exact absurd ⟨rfl, rfl⟩ h
    | 6, 0, _ => rfl
    | 6, 1, _ => rfl
    | 6, 2, _ => rfl
    | 6, 3, _ => rfl
    | 6, 4, _ => rfl
    | 6, 5, _ => rfl
    | 6, 6, _ => rfl
    | 6, 7, _ => rfl
    | 6, 8, _ => rfl
    | 6, 9, _ => rfl
    | 6, 10, _ => rfl
    | 6, 11, _ => rfl
    | 6, 12, _ => rfl
    | 6, 13, _ => rfl
    | 6, 14, _ => rfl
    | 6, 15, _ => rfl
    | 6, 16, _ => rfl
    | 6, 17, _ => rfl
    | 6, 18, _ => rfl
    | 6, 19, _ => rfl
    | 6, 20, _ => rfl
    | 6, 21, _ => rfl
    | 6, 22, _ => rfl
    | 6, 23, _ => rfl
    | 6, 24, _ => rfl
    | 6, 25, _ => rfl
    | 6, 26, _ => rfl
    | 6, 27, _ => rfl
    | 6, 28, _ => rfl
    | 6, 29, _ => rfl
    | 6, 31, _ => rfl
    | 6, n + 32, _ => rfl
    | 0, _, _ => rfl
    | 1, _, _ => rfl
    | 2, _, _ => rfl
    | 3, _, _ => rfl
    | 4, _, _ => rfl
    | 5, _, _ => rfl
    | 7, _, _ => rfl
    | n + 8, _, _ => rfl
theorem wm_a31 (cy : Nat → ClassId) (ad : Nat → Nat → Nat) (S X T : wa_St) (o : Int64) (j : Nat) (v : Int) : wa_up (wW cy ad S X T o) 6 31 (wa_aI (cy 0) 10 (wa_g (T 31) j v)) = wW cy ad S X (wa_s T 31 j v) o := by
  funext a b
  by_cases h : a = 6 ∧ b = 31
  · obtain ⟨rfl, rfl⟩ := h
    rw [wa_up_s]
    show some (wa_aI _ _ _) = some (wa_aI _ _ _)
    congr 2
    funext z
    simp [wa_g, wa_s]
  · rw [wa_up_n h]
    match a, b, h with
    | 6, 31, h => exact absurd ⟨rfl, rfl⟩ h
    | 6, 0, _ => rfl
    | 6, 1, _ => rfl
    | 6, 2, _ => rfl
    | 6, 3, _ => rfl
    | 6, 4, _ => rfl
    | 6, 5, _ => rfl
    | 6, 6, _ => rfl
    | 6, 7, _ => rfl
    | 6, 8, _ => rfl
    | 6, 9, _ => rfl
    | 6, 10, _ => rfl
    | 6, 11, _ => rfl
    | 6, 12, _ => rfl
    | 6, 13, _ => rfl
    | 6, 14, _ => rfl
    | 6, 15, _ => rfl
    | 6, 16, _ => rfl
    | 6, 17, _ => rfl
    | 6, 18, _ => rfl
    | 6, 19, _ => rfl
    | 6, 20, _ => rfl
    | 6, 21, _ => rfl
    | 6, 22, _ => rfl
    | 6, 23, _ => rfl
    | 6, 24, _ => rfl
    | 6, 25, _ => rfl
    | 6, 26, _ => rfl
    | 6, 27, _ => rfl
    | 6, 28, _ => rfl
    | 6, 29, _ => rfl
    | 6, 30, _ => rfl
    | 6, n + 32, _ => rfl
    | 0, _, _ => rfl
    | 1, _, _ => rfl
    | 2, _, _ => rfl
    | 3, _, _ => rfl
    | 4, _, _ => rfl
    | 5, _, _ => rfl
    | 7, _, _ => rfl
    | n + 8, _, _ => rfl
theorem wm_live {cy : Nat → ClassId} {ad : Nat → Nat → Nat} {S X T T' : wa_St} {o o' : Int64} {kd i : Nat} {e : va_E} (h : wW cy ad S X T' o' kd i = some e) : ∃ e', wW cy ad S X T o kd i = some e' := by
  match kd, h with
  | 0, h => exact ⟨_, h⟩
  | 1, h => exact ⟨_, h⟩
  | 2, h => exact ⟨_, h⟩
  | 3, h => exact ⟨_, h⟩
  | 4, h => exact ⟨_, h⟩
  | 5, h => exact ⟨_, h⟩
  | 6, h =>
    match i, h with
    | 0, _ => exact ⟨_, rfl⟩
    | 1, h => exact absurd h (by simp [wW, wm_C])
    | 2, _ => exact ⟨_, rfl⟩
    | 3, _ => exact ⟨_, rfl⟩
    | 4, _ => exact ⟨_, rfl⟩
    | 5, _ => exact ⟨_, rfl⟩
    | 6, _ => exact ⟨_, rfl⟩
    | 7, _ => exact ⟨_, rfl⟩
    | 8, h => exact absurd h (by simp [wW, wm_C])
    | 9, _ => exact ⟨_, rfl⟩
    | 10, _ => exact ⟨_, rfl⟩
    | 11, _ => exact ⟨_, rfl⟩
    | 12, h => exact absurd h (by simp [wW, wm_C])
    | 13, _ => exact ⟨_, rfl⟩
    | 14, _ => exact ⟨_, rfl⟩
    | 15, _ => exact ⟨_, rfl⟩
    | 16, _ => exact ⟨_, rfl⟩
    | 17, _ => exact ⟨_, rfl⟩
    | 18, _ => exact ⟨_, rfl⟩
    | 19, _ => exact ⟨_, rfl⟩
    | 20, _ => exact ⟨_, rfl⟩
    | 21, h => exact absurd h (by simp [wW, wm_C])
    | 22, _ => exact ⟨_, rfl⟩
    | 23, h => exact absurd h (by simp [wW, wm_C])
    | 24, h => exact absurd h (by simp [wW, wm_C])
    | 25, _ => exact ⟨_, rfl⟩
    | 26, _ => exact ⟨_, rfl⟩
    | 27, _ => exact ⟨_, rfl⟩
    | 28, _ => exact ⟨_, rfl⟩
    | 29, h => exact absurd h (by simp [wW, wm_C])
    | 30, _ => exact ⟨_, rfl⟩
    | 31, _ => exact ⟨_, rfl⟩
    | n + 32, h => exact absurd h (by simp [wW, wm_C])
  | 7, h =>
    match i, h with
    | 0, _ => exact ⟨_, rfl⟩
    | n + 1, h => exact absurd h (by simp [wW])
  | n + 8, h => exact absurd h (by simp [wW])
theorem wm_j {A : Nat → Prop} {cy : Nat → ClassId} {ad : Nat → Nat → Nat} {S X T : wa_St} {o : Int64} (h : wa_wj A ad (wW cy ad S X T o)) (T' : wa_St) (o' : Int64) : wa_wj A ad (wW cy ad S X T' o') := by
  refine ⟨fun a b a' b' x x' hx hx' q => ?_, fun a b x hx => ?_⟩
  · obtain ⟨y, hy⟩ := wm_live (T := T) (o := o) hx
    obtain ⟨y', hy'⟩ := wm_live (T := T) (o := o) hx'
    exact h.1 _ _ _ _ _ _ hy hy' q
  · obtain ⟨y, hy⟩ := wm_live (T := T) (o := o) hx
    exact h.2 _ _ _ hy
end
section
/-! rows of the reference (laid by program) -/
section WMR
variable {p : Program} {l : Launch} {e : Env} {R : Room} {s : State} {m : MethodId} {args : Array Value} {below : List Frame} {meth : Method} {c : Code} {H : Heap} {locs : List Loc} {cells slots : Nat} {Q : State → Prop}
variable {cc : ByteArray} {pc : Nat} {ls : Array Slot} {rest st0 : List Value} {D : va_G} {A : Nat → Prop} {H0 : Heap} {cy : Nat → ClassId} {ad : Nat → Nat → Nat} {S X T : wa_St} {o : Int64} {nL : Nat} {own nm : String} {ret : Option FieldType}
theorem pM_65 {v : Int} (F : wa_fx p s m c meth args cc nL RX5 nm ret D cy) (hw : wa_wd D ad (wW cy ad S X T o) H) (hj : wa_wj A ad (wW cy ad S X T o)) (hS : va_S A H0 H locs) (hdg : decode cc pc = .ok (.putfield 65, 3)) (kk : ∀ (H1 : Heap) (locs1 : List Loc), wa_wd D ad (wW cy ad S X (wa_s T 23 0 v) o) H1 → va_S A H0 H1 locs1 → W p l e R s m args below meth c H1 locs1 cells slots Q (F0 m (pc + 3) ls (rest))) : W p l e R s m args below meth c H locs cells slots Q (F0 m pc ls (.int (iI v) :: .ref (ad 6 0) :: rest)) := pX5_65 F hw hj hS rfl (show 23 < 32 by decide) hdg (fun H1 locs1 h1 h2 => kk H1 locs1 (by rw [wm_s23] at h1; exact h1) h2)
theorem pM_69 {v : Int} (F : wa_fx p s m c meth args cc nL RX5 nm ret D cy) (hw : wa_wd D ad (wW cy ad S X T o) H) (hj : wa_wj A ad (wW cy ad S X T o)) (hS : va_S A H0 H locs) (hdg : decode cc pc = .ok (.putfield 69, 3)) (kk : ∀ (H1 : Heap) (locs1 : List Loc), wa_wd D ad (wW cy ad S X (wa_s T 24 0 v) o) H1 → va_S A H0 H1 locs1 → W p l e R s m args below meth c H1 locs1 cells slots Q (F0 m (pc + 3) ls (rest))) : W p l e R s m args below meth c H locs cells slots Q (F0 m pc ls (.int (iI v) :: .ref (ad 6 0) :: rest)) := pX5_69 F hw hj hS rfl (show 24 < 32 by decide) hdg (fun H1 locs1 h1 h2 => kk H1 locs1 (by rw [wm_s24] at h1; exact h1) h2)
theorem pM_90 {v : Int} (F : wa_fx p s m c meth args cc nL RX5 nm ret D cy) (hw : wa_wd D ad (wW cy ad S X T o) H) (hj : wa_wj A ad (wW cy ad S X T o)) (hS : va_S A H0 H locs) (hdg : decode cc pc = .ok (.putfield 90, 3)) (kk : ∀ (H1 : Heap) (locs1 : List Loc), wa_wd D ad (wW cy ad S X (wa_s T 0 0 v) o) H1 → va_S A H0 H1 locs1 → W p l e R s m args below meth c H1 locs1 cells slots Q (F0 m (pc + 3) ls (rest))) : W p l e R s m args below meth c H locs cells slots Q (F0 m pc ls (.int (iI v) :: .ref (ad 6 0) :: rest)) := pX5_90 F hw hj hS rfl (show 0 < 32 by decide) hdg (fun H1 locs1 h1 h2 => kk H1 locs1 (by rw [wm_s0] at h1; exact h1) h2)
theorem pM_93 {v : Int} (F : wa_fx p s m c meth args cc nL RX5 nm ret D cy) (hw : wa_wd D ad (wW cy ad S X T o) H) (hj : wa_wj A ad (wW cy ad S X T o)) (hS : va_S A H0 H locs) (hdg : decode cc pc = .ok (.putfield 93, 3)) (kk : ∀ (H1 : Heap) (locs1 : List Loc), wa_wd D ad (wW cy ad S X (wa_s T 8 0 v) o) H1 → va_S A H0 H1 locs1 → W p l e R s m args below meth c H1 locs1 cells slots Q (F0 m (pc + 3) ls (rest))) : W p l e R s m args below meth c H locs cells slots Q (F0 m pc ls (.int (iI v) :: .ref (ad 6 0) :: rest)) := pX5_93 F hw hj hS rfl (show 8 < 32 by decide) hdg (fun H1 locs1 h1 h2 => kk H1 locs1 (by rw [wm_s8] at h1; exact h1) h2)
theorem pM_100 {v : Int} (F : wa_fx p s m c meth args cc nL RX5 nm ret D cy) (hw : wa_wd D ad (wW cy ad S X T o) H) (hj : wa_wj A ad (wW cy ad S X T o)) (hS : va_S A H0 H locs) (hdg : decode cc pc = .ok (.putfield 100, 3)) (kk : ∀ (H1 : Heap) (locs1 : List Loc), wa_wd D ad (wW cy ad S X (wa_s T 21 0 v) o) H1 → va_S A H0 H1 locs1 → W p l e R s m args below meth c H1 locs1 cells slots Q (F0 m (pc + 3) ls (rest))) : W p l e R s m args below meth c H locs cells slots Q (F0 m pc ls (.int (iI v) :: .ref (ad 6 0) :: rest)) := pX5_100 F hw hj hS rfl (show 21 < 32 by decide) hdg (fun H1 locs1 h1 h2 => kk H1 locs1 (by rw [wm_s21] at h1; exact h1) h2)
theorem pM_110 {v : Int} (F : wa_fx p s m c meth args cc nL RX5 nm ret D cy) (hw : wa_wd D ad (wW cy ad S X T o) H) (hj : wa_wj A ad (wW cy ad S X T o)) (hS : va_S A H0 H locs) (hdg : decode cc pc = .ok (.putfield 110, 3)) (kk : ∀ (H1 : Heap) (locs1 : List Loc), wa_wd D ad (wW cy ad S X (wa_s T 12 0 v) o) H1 → va_S A H0 H1 locs1 → W p l e R s m args below meth c H1 locs1 cells slots Q (F0 m (pc + 3) ls (rest))) : W p l e R s m args below meth c H locs cells slots Q (F0 m pc ls (.int (iI v) :: .ref (ad 6 0) :: rest)) := pX5_110 F hw hj hS rfl (show 12 < 32 by decide) hdg (fun H1 locs1 h1 h2 => kk H1 locs1 (by rw [wm_s12] at h1; exact h1) h2)
theorem pM_130 {v : Int} (F : wa_fx p s m c meth args cc nL RX5 nm ret D cy) (hw : wa_wd D ad (wW cy ad S X T o) H) (hj : wa_wj A ad (wW cy ad S X T o)) (hS : va_S A H0 H locs) (hdg : decode cc pc = .ok (.putfield 130, 3)) (kk : ∀ (H1 : Heap) (locs1 : List Loc), wa_wd D ad (wW cy ad S X (wa_s T 1 0 v) o) H1 → va_S A H0 H1 locs1 → W p l e R s m args below meth c H1 locs1 cells slots Q (F0 m (pc + 3) ls (rest))) : W p l e R s m args below meth c H locs cells slots Q (F0 m pc ls (.int (iI v) :: .ref (ad 6 0) :: rest)) := pX5_130 F hw hj hS rfl (show 1 < 32 by decide) hdg (fun H1 locs1 h1 h2 => kk H1 locs1 (by rw [wm_s1] at h1; exact h1) h2)
theorem pM_147 {v : Int} (F : wa_fx p s m c meth args cc nL RX5 nm ret D cy) (hw : wa_wd D ad (wW cy ad S X T o) H) (hj : wa_wj A ad (wW cy ad S X T o)) (hS : va_S A H0 H locs) (hdg : decode cc pc = .ok (.putfield 147, 3)) (kk : ∀ (H1 : Heap) (locs1 : List Loc), wa_wd D ad (wW cy ad S X (wa_s T 29 0 v) o) H1 → va_S A H0 H1 locs1 → W p l e R s m args below meth c H1 locs1 cells slots Q (F0 m (pc + 3) ls (rest))) : W p l e R s m args below meth c H locs cells slots Q (F0 m pc ls (.int (iI v) :: .ref (ad 6 0) :: rest)) := pX5_147 F hw hj hS rfl (show 29 < 32 by decide) hdg (fun H1 locs1 h1 h2 => kk H1 locs1 (by rw [wm_s29] at h1; exact h1) h2)
theorem aM_2 {z : Int} (F : wa_fx p s m c meth args cc nL own nm ret D cy) (hw : wa_wd D ad (wW cy ad S X T o) H) (j : Nat) (hz : z = (j : Int)) (hj : j < 10) (hdg : decode cc pc = .ok (.iaload, 1)) (kk : W p l e R s m args below meth c H locs cells slots Q (F0 m (pc + 1) ls (.int (iI (T 2 j)) :: rest))) : W p l e R s m args below meth c H locs cells slots Q (F0 m pc ls (.int (iI z) :: .ref (ad 6 2) :: rest)) := wa_iald (g := T 2) F hw rfl j hz hj (by decide) hdg kk
theorem sM_2 {z v : Int} (F : wa_fx p s m c meth args cc nL own nm ret D cy) (hw : wa_wd D ad (wW cy ad S X T o) H) (hjj : wa_wj A ad (wW cy ad S X T o)) (hS : va_S A H0 H locs) (j : Nat) (hz : z = (j : Int)) (hj : j < 10) (hdg : decode cc pc = .ok (.iastore, 1)) (kk : ∀ (H1 : Heap) (locs1 : List Loc), wa_wd D ad (wW cy ad S X (wa_s T 2 j v) o) H1 → va_S A H0 H1 locs1 → W p l e R s m args below meth c H1 locs1 cells slots Q (F0 m (pc + 1) ls (rest))) : W p l e R s m args below meth c H locs cells slots Q (F0 m pc ls (.int (iI v) :: .int (iI z) :: .ref (ad 6 2) :: rest)) := wa_iast (g := T 2) F hw hjj hS rfl j hz hj (by decide) hdg (fun H1 locs1 h1 h2 => kk H1 locs1 (by rw [wm_a2] at h1; exact h1) h2)
theorem aM_3 {z : Int} (F : wa_fx p s m c meth args cc nL own nm ret D cy) (hw : wa_wd D ad (wW cy ad S X T o) H) (j : Nat) (hz : z = (j : Int)) (hj : j < 10) (hdg : decode cc pc = .ok (.iaload, 1)) (kk : W p l e R s m args below meth c H locs cells slots Q (F0 m (pc + 1) ls (.int (iI (T 3 j)) :: rest))) : W p l e R s m args below meth c H locs cells slots Q (F0 m pc ls (.int (iI z) :: .ref (ad 6 3) :: rest)) := wa_iald (g := T 3) F hw rfl j hz hj (by decide) hdg kk
theorem sM_3 {z v : Int} (F : wa_fx p s m c meth args cc nL own nm ret D cy) (hw : wa_wd D ad (wW cy ad S X T o) H) (hjj : wa_wj A ad (wW cy ad S X T o)) (hS : va_S A H0 H locs) (j : Nat) (hz : z = (j : Int)) (hj : j < 10) (hdg : decode cc pc = .ok (.iastore, 1)) (kk : ∀ (H1 : Heap) (locs1 : List Loc), wa_wd D ad (wW cy ad S X (wa_s T 3 j v) o) H1 → va_S A H0 H1 locs1 → W p l e R s m args below meth c H1 locs1 cells slots Q (F0 m (pc + 1) ls (rest))) : W p l e R s m args below meth c H locs cells slots Q (F0 m pc ls (.int (iI v) :: .int (iI z) :: .ref (ad 6 3) :: rest)) := wa_iast (g := T 3) F hw hjj hS rfl j hz hj (by decide) hdg (fun H1 locs1 h1 h2 => kk H1 locs1 (by rw [wm_a3] at h1; exact h1) h2)
theorem aM_4 {z : Int} (F : wa_fx p s m c meth args cc nL own nm ret D cy) (hw : wa_wd D ad (wW cy ad S X T o) H) (j : Nat) (hz : z = (j : Int)) (hj : j < 10) (hdg : decode cc pc = .ok (.iaload, 1)) (kk : W p l e R s m args below meth c H locs cells slots Q (F0 m (pc + 1) ls (.int (iI (T 4 j)) :: rest))) : W p l e R s m args below meth c H locs cells slots Q (F0 m pc ls (.int (iI z) :: .ref (ad 6 4) :: rest)) := wa_iald (g := T 4) F hw rfl j hz hj (by decide) hdg kk
theorem sM_4 {z v : Int} (F : wa_fx p s m c meth args cc nL own nm ret D cy) (hw : wa_wd D ad (wW cy ad S X T o) H) (hjj : wa_wj A ad (wW cy ad S X T o)) (hS : va_S A H0 H locs) (j : Nat) (hz : z = (j : Int)) (hj : j < 10) (hdg : decode cc pc = .ok (.iastore, 1)) (kk : ∀ (H1 : Heap) (locs1 : List Loc), wa_wd D ad (wW cy ad S X (wa_s T 4 j v) o) H1 → va_S A H0 H1 locs1 → W p l e R s m args below meth c H1 locs1 cells slots Q (F0 m (pc + 1) ls (rest))) : W p l e R s m args below meth c H locs cells slots Q (F0 m pc ls (.int (iI v) :: .int (iI z) :: .ref (ad 6 4) :: rest)) := wa_iast (g := T 4) F hw hjj hS rfl j hz hj (by decide) hdg (fun H1 locs1 h1 h2 => kk H1 locs1 (by rw [wm_a4] at h1; exact h1) h2)
theorem aM_5 {z : Int} (F : wa_fx p s m c meth args cc nL own nm ret D cy) (hw : wa_wd D ad (wW cy ad S X T o) H) (j : Nat) (hz : z = (j : Int)) (hj : j < 50) (hdg : decode cc pc = .ok (.iaload, 1)) (kk : W p l e R s m args below meth c H locs cells slots Q (F0 m (pc + 1) ls (.int (iI (T 5 j)) :: rest))) : W p l e R s m args below meth c H locs cells slots Q (F0 m pc ls (.int (iI z) :: .ref (ad 6 5) :: rest)) := wa_iald (g := T 5) F hw rfl j hz hj (by decide) hdg kk
theorem sM_5 {z v : Int} (F : wa_fx p s m c meth args cc nL own nm ret D cy) (hw : wa_wd D ad (wW cy ad S X T o) H) (hjj : wa_wj A ad (wW cy ad S X T o)) (hS : va_S A H0 H locs) (j : Nat) (hz : z = (j : Int)) (hj : j < 50) (hdg : decode cc pc = .ok (.iastore, 1)) (kk : ∀ (H1 : Heap) (locs1 : List Loc), wa_wd D ad (wW cy ad S X (wa_s T 5 j v) o) H1 → va_S A H0 H1 locs1 → W p l e R s m args below meth c H1 locs1 cells slots Q (F0 m (pc + 1) ls (rest))) : W p l e R s m args below meth c H locs cells slots Q (F0 m pc ls (.int (iI v) :: .int (iI z) :: .ref (ad 6 5) :: rest)) := wa_iast (g := T 5) F hw hjj hS rfl j hz hj (by decide) hdg (fun H1 locs1 h1 h2 => kk H1 locs1 (by rw [wm_a5] at h1; exact h1) h2)
theorem aM_6 {z : Int} (F : wa_fx p s m c meth args cc nL own nm ret D cy) (hw : wa_wd D ad (wW cy ad S X T o) H) (j : Nat) (hz : z = (j : Int)) (hj : j < 10) (hdg : decode cc pc = .ok (.iaload, 1)) (kk : W p l e R s m args below meth c H locs cells slots Q (F0 m (pc + 1) ls (.int (iI (T 6 j)) :: rest))) : W p l e R s m args below meth c H locs cells slots Q (F0 m pc ls (.int (iI z) :: .ref (ad 6 6) :: rest)) := wa_iald (g := T 6) F hw rfl j hz hj (by decide) hdg kk
theorem sM_6 {z v : Int} (F : wa_fx p s m c meth args cc nL own nm ret D cy) (hw : wa_wd D ad (wW cy ad S X T o) H) (hjj : wa_wj A ad (wW cy ad S X T o)) (hS : va_S A H0 H locs) (j : Nat) (hz : z = (j : Int)) (hj : j < 10) (hdg : decode cc pc = .ok (.iastore, 1)) (kk : ∀ (H1 : Heap) (locs1 : List Loc), wa_wd D ad (wW cy ad S X (wa_s T 6 j v) o) H1 → va_S A H0 H1 locs1 → W p l e R s m args below meth c H1 locs1 cells slots Q (F0 m (pc + 1) ls (rest))) : W p l e R s m args below meth c H locs cells slots Q (F0 m pc ls (.int (iI v) :: .int (iI z) :: .ref (ad 6 6) :: rest)) := wa_iast (g := T 6) F hw hjj hS rfl j hz hj (by decide) hdg (fun H1 locs1 h1 h2 => kk H1 locs1 (by rw [wm_a6] at h1; exact h1) h2)
theorem aM_7 {z : Int} (F : wa_fx p s m c meth args cc nL own nm ret D cy) (hw : wa_wd D ad (wW cy ad S X T o) H) (j : Nat) (hz : z = (j : Int)) (hj : j < 10) (hdg : decode cc pc = .ok (.iaload, 1)) (kk : W p l e R s m args below meth c H locs cells slots Q (F0 m (pc + 1) ls (.int (iI (T 7 j)) :: rest))) : W p l e R s m args below meth c H locs cells slots Q (F0 m pc ls (.int (iI z) :: .ref (ad 6 7) :: rest)) := wa_iald (g := T 7) F hw rfl j hz hj (by decide) hdg kk
theorem sM_7 {z v : Int} (F : wa_fx p s m c meth args cc nL own nm ret D cy) (hw : wa_wd D ad (wW cy ad S X T o) H) (hjj : wa_wj A ad (wW cy ad S X T o)) (hS : va_S A H0 H locs) (j : Nat) (hz : z = (j : Int)) (hj : j < 10) (hdg : decode cc pc = .ok (.iastore, 1)) (kk : ∀ (H1 : Heap) (locs1 : List Loc), wa_wd D ad (wW cy ad S X (wa_s T 7 j v) o) H1 → va_S A H0 H1 locs1 → W p l e R s m args below meth c H1 locs1 cells slots Q (F0 m (pc + 1) ls (rest))) : W p l e R s m args below meth c H locs cells slots Q (F0 m pc ls (.int (iI v) :: .int (iI z) :: .ref (ad 6 7) :: rest)) := wa_iast (g := T 7) F hw hjj hS rfl j hz hj (by decide) hdg (fun H1 locs1 h1 h2 => kk H1 locs1 (by rw [wm_a7] at h1; exact h1) h2)
theorem aM_9 {z : Int} (F : wa_fx p s m c meth args cc nL own nm ret D cy) (hw : wa_wd D ad (wW cy ad S X T o) H) (j : Nat) (hz : z = (j : Int)) (hj : j < 300) (hdg : decode cc pc = .ok (.iaload, 1)) (kk : W p l e R s m args below meth c H locs cells slots Q (F0 m (pc + 1) ls (.int (iI (T 9 j)) :: rest))) : W p l e R s m args below meth c H locs cells slots Q (F0 m pc ls (.int (iI z) :: .ref (ad 6 9) :: rest)) := wa_iald (g := T 9) F hw rfl j hz hj (by decide) hdg kk
theorem sM_9 {z v : Int} (F : wa_fx p s m c meth args cc nL own nm ret D cy) (hw : wa_wd D ad (wW cy ad S X T o) H) (hjj : wa_wj A ad (wW cy ad S X T o)) (hS : va_S A H0 H locs) (j : Nat) (hz : z = (j : Int)) (hj : j < 300) (hdg : decode cc pc = .ok (.iastore, 1)) (kk : ∀ (H1 : Heap) (locs1 : List Loc), wa_wd D ad (wW cy ad S X (wa_s T 9 j v) o) H1 → va_S A H0 H1 locs1 → W p l e R s m args below meth c H1 locs1 cells slots Q (F0 m (pc + 1) ls (rest))) : W p l e R s m args below meth c H locs cells slots Q (F0 m pc ls (.int (iI v) :: .int (iI z) :: .ref (ad 6 9) :: rest)) := wa_iast (g := T 9) F hw hjj hS rfl j hz hj (by decide) hdg (fun H1 locs1 h1 h2 => kk H1 locs1 (by rw [wm_a9] at h1; exact h1) h2)
theorem aM_10 {z : Int} (F : wa_fx p s m c meth args cc nL own nm ret D cy) (hw : wa_wd D ad (wW cy ad S X T o) H) (j : Nat) (hz : z = (j : Int)) (hj : j < 300) (hdg : decode cc pc = .ok (.iaload, 1)) (kk : W p l e R s m args below meth c H locs cells slots Q (F0 m (pc + 1) ls (.int (iI (T 10 j)) :: rest))) : W p l e R s m args below meth c H locs cells slots Q (F0 m pc ls (.int (iI z) :: .ref (ad 6 10) :: rest)) := wa_iald (g := T 10) F hw rfl j hz hj (by decide) hdg kk
theorem sM_10 {z v : Int} (F : wa_fx p s m c meth args cc nL own nm ret D cy) (hw : wa_wd D ad (wW cy ad S X T o) H) (hjj : wa_wj A ad (wW cy ad S X T o)) (hS : va_S A H0 H locs) (j : Nat) (hz : z = (j : Int)) (hj : j < 300) (hdg : decode cc pc = .ok (.iastore, 1)) (kk : ∀ (H1 : Heap) (locs1 : List Loc), wa_wd D ad (wW cy ad S X (wa_s T 10 j v) o) H1 → va_S A H0 H1 locs1 → W p l e R s m args below meth c H1 locs1 cells slots Q (F0 m (pc + 1) ls (rest))) : W p l e R s m args below meth c H locs cells slots Q (F0 m pc ls (.int (iI v) :: .int (iI z) :: .ref (ad 6 10) :: rest)) := wa_iast (g := T 10) F hw hjj hS rfl j hz hj (by decide) hdg (fun H1 locs1 h1 h2 => kk H1 locs1 (by rw [wm_a10] at h1; exact h1) h2)
theorem aM_11 {z : Int} (F : wa_fx p s m c meth args cc nL own nm ret D cy) (hw : wa_wd D ad (wW cy ad S X T o) H) (j : Nat) (hz : z = (j : Int)) (hj : j < 300) (hdg : decode cc pc = .ok (.iaload, 1)) (kk : W p l e R s m args below meth c H locs cells slots Q (F0 m (pc + 1) ls (.int (iI (T 11 j)) :: rest))) : W p l e R s m args below meth c H locs cells slots Q (F0 m pc ls (.int (iI z) :: .ref (ad 6 11) :: rest)) := wa_iald (g := T 11) F hw rfl j hz hj (by decide) hdg kk
theorem sM_11 {z v : Int} (F : wa_fx p s m c meth args cc nL own nm ret D cy) (hw : wa_wd D ad (wW cy ad S X T o) H) (hjj : wa_wj A ad (wW cy ad S X T o)) (hS : va_S A H0 H locs) (j : Nat) (hz : z = (j : Int)) (hj : j < 300) (hdg : decode cc pc = .ok (.iastore, 1)) (kk : ∀ (H1 : Heap) (locs1 : List Loc), wa_wd D ad (wW cy ad S X (wa_s T 11 j v) o) H1 → va_S A H0 H1 locs1 → W p l e R s m args below meth c H1 locs1 cells slots Q (F0 m (pc + 1) ls (rest))) : W p l e R s m args below meth c H locs cells slots Q (F0 m pc ls (.int (iI v) :: .int (iI z) :: .ref (ad 6 11) :: rest)) := wa_iast (g := T 11) F hw hjj hS rfl j hz hj (by decide) hdg (fun H1 locs1 h1 h2 => kk H1 locs1 (by rw [wm_a11] at h1; exact h1) h2)
theorem aM_13 {z : Int} (F : wa_fx p s m c meth args cc nL own nm ret D cy) (hw : wa_wd D ad (wW cy ad S X T o) H) (j : Nat) (hz : z = (j : Int)) (hj : j < 60) (hdg : decode cc pc = .ok (.iaload, 1)) (kk : W p l e R s m args below meth c H locs cells slots Q (F0 m (pc + 1) ls (.int (iI (T 13 j)) :: rest))) : W p l e R s m args below meth c H locs cells slots Q (F0 m pc ls (.int (iI z) :: .ref (ad 6 13) :: rest)) := wa_iald (g := T 13) F hw rfl j hz hj (by decide) hdg kk
theorem sM_13 {z v : Int} (F : wa_fx p s m c meth args cc nL own nm ret D cy) (hw : wa_wd D ad (wW cy ad S X T o) H) (hjj : wa_wj A ad (wW cy ad S X T o)) (hS : va_S A H0 H locs) (j : Nat) (hz : z = (j : Int)) (hj : j < 60) (hdg : decode cc pc = .ok (.iastore, 1)) (kk : ∀ (H1 : Heap) (locs1 : List Loc), wa_wd D ad (wW cy ad S X (wa_s T 13 j v) o) H1 → va_S A H0 H1 locs1 → W p l e R s m args below meth c H1 locs1 cells slots Q (F0 m (pc + 1) ls (rest))) : W p l e R s m args below meth c H locs cells slots Q (F0 m pc ls (.int (iI v) :: .int (iI z) :: .ref (ad 6 13) :: rest)) := wa_iast (g := T 13) F hw hjj hS rfl j hz hj (by decide) hdg (fun H1 locs1 h1 h2 => kk H1 locs1 (by rw [wm_a13] at h1; exact h1) h2)
theorem aM_14 {z : Int} (F : wa_fx p s m c meth args cc nL own nm ret D cy) (hw : wa_wd D ad (wW cy ad S X T o) H) (j : Nat) (hz : z = (j : Int)) (hj : j < 60) (hdg : decode cc pc = .ok (.iaload, 1)) (kk : W p l e R s m args below meth c H locs cells slots Q (F0 m (pc + 1) ls (.int (iI (T 14 j)) :: rest))) : W p l e R s m args below meth c H locs cells slots Q (F0 m pc ls (.int (iI z) :: .ref (ad 6 14) :: rest)) := wa_iald (g := T 14) F hw rfl j hz hj (by decide) hdg kk
theorem sM_14 {z v : Int} (F : wa_fx p s m c meth args cc nL own nm ret D cy) (hw : wa_wd D ad (wW cy ad S X T o) H) (hjj : wa_wj A ad (wW cy ad S X T o)) (hS : va_S A H0 H locs) (j : Nat) (hz : z = (j : Int)) (hj : j < 60) (hdg : decode cc pc = .ok (.iastore, 1)) (kk : ∀ (H1 : Heap) (locs1 : List Loc), wa_wd D ad (wW cy ad S X (wa_s T 14 j v) o) H1 → va_S A H0 H1 locs1 → W p l e R s m args below meth c H1 locs1 cells slots Q (F0 m (pc + 1) ls (rest))) : W p l e R s m args below meth c H locs cells slots Q (F0 m pc ls (.int (iI v) :: .int (iI z) :: .ref (ad 6 14) :: rest)) := wa_iast (g := T 14) F hw hjj hS rfl j hz hj (by decide) hdg (fun H1 locs1 h1 h2 => kk H1 locs1 (by rw [wm_a14] at h1; exact h1) h2)
theorem aM_15 {z : Int} (F : wa_fx p s m c meth args cc nL own nm ret D cy) (hw : wa_wd D ad (wW cy ad S X T o) H) (j : Nat) (hz : z = (j : Int)) (hj : j < 60) (hdg : decode cc pc = .ok (.iaload, 1)) (kk : W p l e R s m args below meth c H locs cells slots Q (F0 m (pc + 1) ls (.int (iI (T 15 j)) :: rest))) : W p l e R s m args below meth c H locs cells slots Q (F0 m pc ls (.int (iI z) :: .ref (ad 6 15) :: rest)) := wa_iald (g := T 15) F hw rfl j hz hj (by decide) hdg kk
theorem sM_15 {z v : Int} (F : wa_fx p s m c meth args cc nL own nm ret D cy) (hw : wa_wd D ad (wW cy ad S X T o) H) (hjj : wa_wj A ad (wW cy ad S X T o)) (hS : va_S A H0 H locs) (j : Nat) (hz : z = (j : Int)) (hj : j < 60) (hdg : decode cc pc = .ok (.iastore, 1)) (kk : ∀ (H1 : Heap) (locs1 : List Loc), wa_wd D ad (wW cy ad S X (wa_s T 15 j v) o) H1 → va_S A H0 H1 locs1 → W p l e R s m args below meth c H1 locs1 cells slots Q (F0 m (pc + 1) ls (rest))) : W p l e R s m args below meth c H locs cells slots Q (F0 m pc ls (.int (iI v) :: .int (iI z) :: .ref (ad 6 15) :: rest)) := wa_iast (g := T 15) F hw hjj hS rfl j hz hj (by decide) hdg (fun H1 locs1 h1 h2 => kk H1 locs1 (by rw [wm_a15] at h1; exact h1) h2)
theorem aM_16 {z : Int} (F : wa_fx p s m c meth args cc nL own nm ret D cy) (hw : wa_wd D ad (wW cy ad S X T o) H) (j : Nat) (hz : z = (j : Int)) (hj : j < 60) (hdg : decode cc pc = .ok (.iaload, 1)) (kk : W p l e R s m args below meth c H locs cells slots Q (F0 m (pc + 1) ls (.int (iI (T 16 j)) :: rest))) : W p l e R s m args below meth c H locs cells slots Q (F0 m pc ls (.int (iI z) :: .ref (ad 6 16) :: rest)) := wa_iald (g := T 16) F hw rfl j hz hj (by decide) hdg kk
theorem sM_16 {z v : Int} (F : wa_fx p s m c meth args cc nL own nm ret D cy) (hw : wa_wd D ad (wW cy ad S X T o) H) (hjj : wa_wj A ad (wW cy ad S X T o)) (hS : va_S A H0 H locs) (j : Nat) (hz : z = (j : Int)) (hj : j < 60) (hdg : decode cc pc = .ok (.iastore, 1)) (kk : ∀ (H1 : Heap) (locs1 : List Loc), wa_wd D ad (wW cy ad S X (wa_s T 16 j v) o) H1 → va_S A H0 H1 locs1 → W p l e R s m args below meth c H1 locs1 cells slots Q (F0 m (pc + 1) ls (rest))) : W p l e R s m args below meth c H locs cells slots Q (F0 m pc ls (.int (iI v) :: .int (iI z) :: .ref (ad 6 16) :: rest)) := wa_iast (g := T 16) F hw hjj hS rfl j hz hj (by decide) hdg (fun H1 locs1 h1 h2 => kk H1 locs1 (by rw [wm_a16] at h1; exact h1) h2)
theorem aM_17 {z : Int} (F : wa_fx p s m c meth args cc nL own nm ret D cy) (hw : wa_wd D ad (wW cy ad S X T o) H) (j : Nat) (hz : z = (j : Int)) (hj : j < 60) (hdg : decode cc pc = .ok (.baload, 1)) (kk : W p l e R s m args below meth c H locs cells slots Q (F0 m (pc + 1) ls (.int (iI (T 17 j)) :: rest))) : W p l e R s m args below meth c H locs cells slots Q (F0 m pc ls (.int (iI z) :: .ref (ad 6 17) :: rest)) := wa_zald (g := T 17) F hw rfl j hz hj (by decide) hdg kk
theorem sM_17 {z v : Int} (F : wa_fx p s m c meth args cc nL own nm ret D cy) (hw : wa_wd D ad (wW cy ad S X T o) H) (hjj : wa_wj A ad (wW cy ad S X T o)) (hS : va_S A H0 H locs) (hv : v = 0 ∨ v = 1) (j : Nat) (hz : z = (j : Int)) (hj : j < 60) (hdg : decode cc pc = .ok (.bastore, 1)) (kk : ∀ (H1 : Heap) (locs1 : List Loc), wa_wd D ad (wW cy ad S X (wa_s T 17 j v) o) H1 → va_S A H0 H1 locs1 → W p l e R s m args below meth c H1 locs1 cells slots Q (F0 m (pc + 1) ls (rest))) : W p l e R s m args below meth c H locs cells slots Q (F0 m pc ls (.int (iI v) :: .int (iI z) :: .ref (ad 6 17) :: rest)) := wa_zast (g := T 17) F hw hjj hS rfl hv j hz hj (by decide) hdg (fun H1 locs1 h1 h2 => kk H1 locs1 (by rw [wm_a17] at h1; exact h1) h2)
theorem aM_18 {z : Int} (F : wa_fx p s m c meth args cc nL own nm ret D cy) (hw : wa_wd D ad (wW cy ad S X T o) H) (j : Nat) (hz : z = (j : Int)) (hj : j < 60) (hdg : decode cc pc = .ok (.baload, 1)) (kk : W p l e R s m args below meth c H locs cells slots Q (F0 m (pc + 1) ls (.int (iI (T 18 j)) :: rest))) : W p l e R s m args below meth c H locs cells slots Q (F0 m pc ls (.int (iI z) :: .ref (ad 6 18) :: rest)) := wa_zald (g := T 18) F hw rfl j hz hj (by decide) hdg kk
theorem sM_18 {z v : Int} (F : wa_fx p s m c meth args cc nL own nm ret D cy) (hw : wa_wd D ad (wW cy ad S X T o) H) (hjj : wa_wj A ad (wW cy ad S X T o)) (hS : va_S A H0 H locs) (hv : v = 0 ∨ v = 1) (j : Nat) (hz : z = (j : Int)) (hj : j < 60) (hdg : decode cc pc = .ok (.bastore, 1)) (kk : ∀ (H1 : Heap) (locs1 : List Loc), wa_wd D ad (wW cy ad S X (wa_s T 18 j v) o) H1 → va_S A H0 H1 locs1 → W p l e R s m args below meth c H1 locs1 cells slots Q (F0 m (pc + 1) ls (rest))) : W p l e R s m args below meth c H locs cells slots Q (F0 m pc ls (.int (iI v) :: .int (iI z) :: .ref (ad 6 18) :: rest)) := wa_zast (g := T 18) F hw hjj hS rfl hv j hz hj (by decide) hdg (fun H1 locs1 h1 h2 => kk H1 locs1 (by rw [wm_a18] at h1; exact h1) h2)
theorem aM_19 {z : Int} (F : wa_fx p s m c meth args cc nL own nm ret D cy) (hw : wa_wd D ad (wW cy ad S X T o) H) (j : Nat) (hz : z = (j : Int)) (hj : j < 60) (hdg : decode cc pc = .ok (.baload, 1)) (kk : W p l e R s m args below meth c H locs cells slots Q (F0 m (pc + 1) ls (.int (iI (T 19 j)) :: rest))) : W p l e R s m args below meth c H locs cells slots Q (F0 m pc ls (.int (iI z) :: .ref (ad 6 19) :: rest)) := wa_zald (g := T 19) F hw rfl j hz hj (by decide) hdg kk
theorem sM_19 {z v : Int} (F : wa_fx p s m c meth args cc nL own nm ret D cy) (hw : wa_wd D ad (wW cy ad S X T o) H) (hjj : wa_wj A ad (wW cy ad S X T o)) (hS : va_S A H0 H locs) (hv : v = 0 ∨ v = 1) (j : Nat) (hz : z = (j : Int)) (hj : j < 60) (hdg : decode cc pc = .ok (.bastore, 1)) (kk : ∀ (H1 : Heap) (locs1 : List Loc), wa_wd D ad (wW cy ad S X (wa_s T 19 j v) o) H1 → va_S A H0 H1 locs1 → W p l e R s m args below meth c H1 locs1 cells slots Q (F0 m (pc + 1) ls (rest))) : W p l e R s m args below meth c H locs cells slots Q (F0 m pc ls (.int (iI v) :: .int (iI z) :: .ref (ad 6 19) :: rest)) := wa_zast (g := T 19) F hw hjj hS rfl hv j hz hj (by decide) hdg (fun H1 locs1 h1 h2 => kk H1 locs1 (by rw [wm_a19] at h1; exact h1) h2)
theorem aM_20 {z : Int} (F : wa_fx p s m c meth args cc nL own nm ret D cy) (hw : wa_wd D ad (wW cy ad S X T o) H) (j : Nat) (hz : z = (j : Int)) (hj : j < 180) (hdg : decode cc pc = .ok (.iaload, 1)) (kk : W p l e R s m args below meth c H locs cells slots Q (F0 m (pc + 1) ls (.int (iI (T 20 j)) :: rest))) : W p l e R s m args below meth c H locs cells slots Q (F0 m pc ls (.int (iI z) :: .ref (ad 6 20) :: rest)) := wa_iald (g := T 20) F hw rfl j hz hj (by decide) hdg kk
theorem sM_20 {z v : Int} (F : wa_fx p s m c meth args cc nL own nm ret D cy) (hw : wa_wd D ad (wW cy ad S X T o) H) (hjj : wa_wj A ad (wW cy ad S X T o)) (hS : va_S A H0 H locs) (j : Nat) (hz : z = (j : Int)) (hj : j < 180) (hdg : decode cc pc = .ok (.iastore, 1)) (kk : ∀ (H1 : Heap) (locs1 : List Loc), wa_wd D ad (wW cy ad S X (wa_s T 20 j v) o) H1 → va_S A H0 H1 locs1 → W p l e R s m args below meth c H1 locs1 cells slots Q (F0 m (pc + 1) ls (rest))) : W p l e R s m args below meth c H locs cells slots Q (F0 m pc ls (.int (iI v) :: .int (iI z) :: .ref (ad 6 20) :: rest)) := wa_iast (g := T 20) F hw hjj hS rfl j hz hj (by decide) hdg (fun H1 locs1 h1 h2 => kk H1 locs1 (by rw [wm_a20] at h1; exact h1) h2)
theorem aM_22 {z : Int} (F : wa_fx p s m c meth args cc nL own nm ret D cy) (hw : wa_wd D ad (wW cy ad S X T o) H) (j : Nat) (hz : z = (j : Int)) (hj : j < 3) (hdg : decode cc pc = .ok (.iaload, 1)) (kk : W p l e R s m args below meth c H locs cells slots Q (F0 m (pc + 1) ls (.int (iI (T 22 j)) :: rest))) : W p l e R s m args below meth c H locs cells slots Q (F0 m pc ls (.int (iI z) :: .ref (ad 6 22) :: rest)) := wa_iald (g := T 22) F hw rfl j hz hj (by decide) hdg kk
theorem sM_22 {z v : Int} (F : wa_fx p s m c meth args cc nL own nm ret D cy) (hw : wa_wd D ad (wW cy ad S X T o) H) (hjj : wa_wj A ad (wW cy ad S X T o)) (hS : va_S A H0 H locs) (j : Nat) (hz : z = (j : Int)) (hj : j < 3) (hdg : decode cc pc = .ok (.iastore, 1)) (kk : ∀ (H1 : Heap) (locs1 : List Loc), wa_wd D ad (wW cy ad S X (wa_s T 22 j v) o) H1 → va_S A H0 H1 locs1 → W p l e R s m args below meth c H1 locs1 cells slots Q (F0 m (pc + 1) ls (rest))) : W p l e R s m args below meth c H locs cells slots Q (F0 m pc ls (.int (iI v) :: .int (iI z) :: .ref (ad 6 22) :: rest)) := wa_iast (g := T 22) F hw hjj hS rfl j hz hj (by decide) hdg (fun H1 locs1 h1 h2 => kk H1 locs1 (by rw [wm_a22] at h1; exact h1) h2)
theorem aM_25 {z : Int} (F : wa_fx p s m c meth args cc nL own nm ret D cy) (hw : wa_wd D ad (wW cy ad S X T o) H) (j : Nat) (hz : z = (j : Int)) (hj : j < 30) (hdg : decode cc pc = .ok (.iaload, 1)) (kk : W p l e R s m args below meth c H locs cells slots Q (F0 m (pc + 1) ls (.int (iI (T 25 j)) :: rest))) : W p l e R s m args below meth c H locs cells slots Q (F0 m pc ls (.int (iI z) :: .ref (ad 6 25) :: rest)) := wa_iald (g := T 25) F hw rfl j hz hj (by decide) hdg kk
theorem sM_25 {z v : Int} (F : wa_fx p s m c meth args cc nL own nm ret D cy) (hw : wa_wd D ad (wW cy ad S X T o) H) (hjj : wa_wj A ad (wW cy ad S X T o)) (hS : va_S A H0 H locs) (j : Nat) (hz : z = (j : Int)) (hj : j < 30) (hdg : decode cc pc = .ok (.iastore, 1)) (kk : ∀ (H1 : Heap) (locs1 : List Loc), wa_wd D ad (wW cy ad S X (wa_s T 25 j v) o) H1 → va_S A H0 H1 locs1 → W p l e R s m args below meth c H1 locs1 cells slots Q (F0 m (pc + 1) ls (rest))) : W p l e R s m args below meth c H locs cells slots Q (F0 m pc ls (.int (iI v) :: .int (iI z) :: .ref (ad 6 25) :: rest)) := wa_iast (g := T 25) F hw hjj hS rfl j hz hj (by decide) hdg (fun H1 locs1 h1 h2 => kk H1 locs1 (by rw [wm_a25] at h1; exact h1) h2)
theorem aM_26 {z : Int} (F : wa_fx p s m c meth args cc nL own nm ret D cy) (hw : wa_wd D ad (wW cy ad S X T o) H) (j : Nat) (hz : z = (j : Int)) (hj : j < 30) (hdg : decode cc pc = .ok (.iaload, 1)) (kk : W p l e R s m args below meth c H locs cells slots Q (F0 m (pc + 1) ls (.int (iI (T 26 j)) :: rest))) : W p l e R s m args below meth c H locs cells slots Q (F0 m pc ls (.int (iI z) :: .ref (ad 6 26) :: rest)) := wa_iald (g := T 26) F hw rfl j hz hj (by decide) hdg kk
theorem sM_26 {z v : Int} (F : wa_fx p s m c meth args cc nL own nm ret D cy) (hw : wa_wd D ad (wW cy ad S X T o) H) (hjj : wa_wj A ad (wW cy ad S X T o)) (hS : va_S A H0 H locs) (j : Nat) (hz : z = (j : Int)) (hj : j < 30) (hdg : decode cc pc = .ok (.iastore, 1)) (kk : ∀ (H1 : Heap) (locs1 : List Loc), wa_wd D ad (wW cy ad S X (wa_s T 26 j v) o) H1 → va_S A H0 H1 locs1 → W p l e R s m args below meth c H1 locs1 cells slots Q (F0 m (pc + 1) ls (rest))) : W p l e R s m args below meth c H locs cells slots Q (F0 m pc ls (.int (iI v) :: .int (iI z) :: .ref (ad 6 26) :: rest)) := wa_iast (g := T 26) F hw hjj hS rfl j hz hj (by decide) hdg (fun H1 locs1 h1 h2 => kk H1 locs1 (by rw [wm_a26] at h1; exact h1) h2)
theorem aM_27 {z : Int} (F : wa_fx p s m c meth args cc nL own nm ret D cy) (hw : wa_wd D ad (wW cy ad S X T o) H) (j : Nat) (hz : z = (j : Int)) (hj : j < 30) (hdg : decode cc pc = .ok (.iaload, 1)) (kk : W p l e R s m args below meth c H locs cells slots Q (F0 m (pc + 1) ls (.int (iI (T 27 j)) :: rest))) : W p l e R s m args below meth c H locs cells slots Q (F0 m pc ls (.int (iI z) :: .ref (ad 6 27) :: rest)) := wa_iald (g := T 27) F hw rfl j hz hj (by decide) hdg kk
theorem sM_27 {z v : Int} (F : wa_fx p s m c meth args cc nL own nm ret D cy) (hw : wa_wd D ad (wW cy ad S X T o) H) (hjj : wa_wj A ad (wW cy ad S X T o)) (hS : va_S A H0 H locs) (j : Nat) (hz : z = (j : Int)) (hj : j < 30) (hdg : decode cc pc = .ok (.iastore, 1)) (kk : ∀ (H1 : Heap) (locs1 : List Loc), wa_wd D ad (wW cy ad S X (wa_s T 27 j v) o) H1 → va_S A H0 H1 locs1 → W p l e R s m args below meth c H1 locs1 cells slots Q (F0 m (pc + 1) ls (rest))) : W p l e R s m args below meth c H locs cells slots Q (F0 m pc ls (.int (iI v) :: .int (iI z) :: .ref (ad 6 27) :: rest)) := wa_iast (g := T 27) F hw hjj hS rfl j hz hj (by decide) hdg (fun H1 locs1 h1 h2 => kk H1 locs1 (by rw [wm_a27] at h1; exact h1) h2)
theorem aM_28 {z : Int} (F : wa_fx p s m c meth args cc nL own nm ret D cy) (hw : wa_wd D ad (wW cy ad S X T o) H) (j : Nat) (hz : z = (j : Int)) (hj : j < 30) (hdg : decode cc pc = .ok (.iaload, 1)) (kk : W p l e R s m args below meth c H locs cells slots Q (F0 m (pc + 1) ls (.int (iI (T 28 j)) :: rest))) : W p l e R s m args below meth c H locs cells slots Q (F0 m pc ls (.int (iI z) :: .ref (ad 6 28) :: rest)) := wa_iald (g := T 28) F hw rfl j hz hj (by decide) hdg kk
theorem sM_28 {z v : Int} (F : wa_fx p s m c meth args cc nL own nm ret D cy) (hw : wa_wd D ad (wW cy ad S X T o) H) (hjj : wa_wj A ad (wW cy ad S X T o)) (hS : va_S A H0 H locs) (j : Nat) (hz : z = (j : Int)) (hj : j < 30) (hdg : decode cc pc = .ok (.iastore, 1)) (kk : ∀ (H1 : Heap) (locs1 : List Loc), wa_wd D ad (wW cy ad S X (wa_s T 28 j v) o) H1 → va_S A H0 H1 locs1 → W p l e R s m args below meth c H1 locs1 cells slots Q (F0 m (pc + 1) ls (rest))) : W p l e R s m args below meth c H locs cells slots Q (F0 m pc ls (.int (iI v) :: .int (iI z) :: .ref (ad 6 28) :: rest)) := wa_iast (g := T 28) F hw hjj hS rfl j hz hj (by decide) hdg (fun H1 locs1 h1 h2 => kk H1 locs1 (by rw [wm_a28] at h1; exact h1) h2)
theorem aM_30 {z : Int} (F : wa_fx p s m c meth args cc nL own nm ret D cy) (hw : wa_wd D ad (wW cy ad S X T o) H) (j : Nat) (hz : z = (j : Int)) (hj : j < 10) (hdg : decode cc pc = .ok (.iaload, 1)) (kk : W p l e R s m args below meth c H locs cells slots Q (F0 m (pc + 1) ls (.int (iI (T 30 j)) :: rest))) : W p l e R s m args below meth c H locs cells slots Q (F0 m pc ls (.int (iI z) :: .ref (ad 6 30) :: rest)) := wa_iald (g := T 30) F hw rfl j hz hj (by decide) hdg kk
theorem sM_30 {z v : Int} (F : wa_fx p s m c meth args cc nL own nm ret D cy) (hw : wa_wd D ad (wW cy ad S X T o) H) (hjj : wa_wj A ad (wW cy ad S X T o)) (hS : va_S A H0 H locs) (j : Nat) (hz : z = (j : Int)) (hj : j < 10) (hdg : decode cc pc = .ok (.iastore, 1)) (kk : ∀ (H1 : Heap) (locs1 : List Loc), wa_wd D ad (wW cy ad S X (wa_s T 30 j v) o) H1 → va_S A H0 H1 locs1 → W p l e R s m args below meth c H1 locs1 cells slots Q (F0 m (pc + 1) ls (rest))) : W p l e R s m args below meth c H locs cells slots Q (F0 m pc ls (.int (iI v) :: .int (iI z) :: .ref (ad 6 30) :: rest)) := wa_iast (g := T 30) F hw hjj hS rfl j hz hj (by decide) hdg (fun H1 locs1 h1 h2 => kk H1 locs1 (by rw [wm_a30] at h1; exact h1) h2)
theorem aM_31 {z : Int} (F : wa_fx p s m c meth args cc nL own nm ret D cy) (hw : wa_wd D ad (wW cy ad S X T o) H) (j : Nat) (hz : z = (j : Int)) (hj : j < 10) (hdg : decode cc pc = .ok (.iaload, 1)) (kk : W p l e R s m args below meth c H locs cells slots Q (F0 m (pc + 1) ls (.int (iI (T 31 j)) :: rest))) : W p l e R s m args below meth c H locs cells slots Q (F0 m pc ls (.int (iI z) :: .ref (ad 6 31) :: rest)) := wa_iald (g := T 31) F hw rfl j hz hj (by decide) hdg kk
theorem sM_31 {z v : Int} (F : wa_fx p s m c meth args cc nL own nm ret D cy) (hw : wa_wd D ad (wW cy ad S X T o) H) (hjj : wa_wj A ad (wW cy ad S X T o)) (hS : va_S A H0 H locs) (j : Nat) (hz : z = (j : Int)) (hj : j < 10) (hdg : decode cc pc = .ok (.iastore, 1)) (kk : ∀ (H1 : Heap) (locs1 : List Loc), wa_wd D ad (wW cy ad S X (wa_s T 31 j v) o) H1 → va_S A H0 H1 locs1 → W p l e R s m args below meth c H1 locs1 cells slots Q (F0 m (pc + 1) ls (rest))) : W p l e R s m args below meth c H locs cells slots Q (F0 m pc ls (.int (iI v) :: .int (iI z) :: .ref (ad 6 31) :: rest)) := wa_iast (g := T 31) F hw hjj hS rfl j hz hj (by decide) hdg (fun H1 locs1 h1 h2 => kk H1 locs1 (by rw [wm_a31] at h1; exact h1) h2)
end WMR
end
section
/-! what the reference needs of its state so that it never leaves a row; what each call does to the state -/
def wf (T : wa_St) : Prop := (∀ k j, -2 ≤ T k j ∧ T k j ≤ 100000) ∧ (0 ≤ T 8 0 ∧ T 8 0 ≤ 10) ∧ (0 ≤ T 21 0 ∧ T 21 0 ≤ 60) ∧ (0 ≤ T 12 0 ∧ T 12 0 ≤ 5 * T 21 0) ∧ (0 ≤ T 29 0 ∧ T 29 0 ≤ 30) ∧ (∀ i : Nat, (i : Int) < T 8 0 → -1 ≤ T 4 i ∧ T 4 i < i) ∧ (∀ i : Nat, (i : Int) < T 8 0 → -1 ≤ T 7 i ∧ T 7 i < T 21 0) ∧ (∀ i, 0 ≤ T 6 i ∧ T 6 i ≤ 5) ∧ (∀ j, 0 ≤ T 5 j ∧ T 5 j ≤ 9) ∧ (∀ b : Nat, (b : Int) < T 21 0 → 0 ≤ T 13 b ∧ T 13 b < T 8 0) ∧ (∀ m : Nat, (m : Int) < T 29 0 → 0 ≤ T 25 m ∧ T 25 m < T 8 0) ∧ (∀ m : Nat, (m : Int) < T 29 0 → 0 ≤ T 26 m ∧ T 26 m ≤ 2) ∧ (∀ m : Nat, (m : Int) < T 29 0 → -1 ≤ T 28 m ∧ T 28 m < T 21 0) ∧ (∀ b : Nat, (b : Int) < T 21 0 → -1 ≤ T 14 b ∧ T 14 b < T 12 0) ∧ (∀ j, 0 ≤ T 3 j)
theorem wf_th {T : wa_St} (h : wf T) {k : Int} (hk : 0 ≤ k ∧ k ≤ 3) : wf (wa_s T 0 0 k) := by
  obtain ⟨hB, h⟩ := h
  refine ⟨fun a b => ?_, h⟩
  by_cases q : a = 0 ∧ b = 0
  · rw [show wa_s T 0 0 k a b = k from if_pos q]; omega
  · rw [wa_s_ne q]; exact hB a b
theorem f_fnd_rng (p : Nat → Bool) : ∀ n i, -2 ≤ f_fnd p n i ∧ f_fnd p n i < (n : Int) + i
  | 0, i => by simp only [f_fnd]; omega
  | n + 1, i => by
    have ih := f_fnd_rng p n (i + 1)
    simp only [f_fnd]
    split <;> omega
theorem f_find_rng {T : wa_St} (h : wf T) (a b c : Int) : -2 ≤ f_find T a b c ∧ f_find T a b c ≤ 300 := by
  have := f_fnd_rng (fun l => decide (T 9 l = a ∧ T 10 l = b ∧ T 11 l = c)) (T 12 0).toNat 0
  obtain ⟨-, -, h1, h2, -⟩ := h
  unfold f_find
  omega
theorem f_base_rng {T : wa_St} (h : wf T) (i : Nat) : -2 ≤ f_base T i ∧ f_base T i ≤ 100000 := by
  unfold f_base
  split
  · omega
  · exact h.1 _ _
theorem f_top_rng {T : wa_St} (h : wf T) : ∀ (n s : Nat) (z : Int), (-2 ≤ z ∧ z ≤ 100000) → -2 ≤ f_top T n s z ∧ f_top T n s z ≤ 100000
  | 0, s, z, hz => hz
  | n + 1, s, z, hz => by
    simp only [f_top]
    split
    · omega
    · have := f_find_rng h z (T 5 s) (T 2 (T 5 s).toNat)
      exact f_top_rng h n (s + 1) _ (by omega)
theorem f_topNow_rng {T : wa_St} (h : wf T) (i : Nat) : -2 ≤ f_topNow T i ∧ f_topNow T i ≤ 100000 := f_top_rng h _ _ _ (f_base_rng h i)
theorem f_top_m2 (T : wa_St) : ∀ n s, f_top T n s (-2) = -2
  | 0, _ => rfl
  | n + 1, s => by simp [f_top]
theorem f_cnt_rng (p : Nat → Bool) : ∀ n, 0 ≤ f_cnt p n ∧ f_cnt p n ≤ n
  | 0 => by simp only [f_cnt]; omega
  | n + 1 => by
    have ih := f_cnt_rng p n
    have := bI_01 (p n = true)
    simp only [f_cnt]
    omega
theorem f_last_rng (p : Nat → Bool) : ∀ n, -1 ≤ f_last p n ∧ f_last p n < n
  | 0 => by simp only [f_last]; omega
  | n + 1 => by
    have ih := f_last_rng p n
    simp only [f_last]
    split <;> omega
/-- a call that may be refused: k is the place of its exception, 0 for none -/
def o_s (T : wa_St) (k : Int) (act : wa_St) : wa_St := if k = 0 then act else wa_s T 0 0 k
def o_v (k v : Int) : Int := if k = 0 then v else 0
def k_add (T : wa_St) (q : Int) : Int := if ¬ (-1 ≤ q ∧ q ≤ T 8 0 - 1) then 1 else if T 8 0 = 10 then 2 else 0
def a_add (T : wa_St) (q : Int) : wa_St := wa_s (wa_s (wa_s (wa_s T 0 0 0) 4 (T 8 0).toNat q) 7 (T 8 0).toNat (-1)) 8 0 (T 8 0 + 1)
def k_step (T : wa_St) (i q : Int) : Int := if ¬ f_isImage T i then 1 else if ¬ (0 ≤ q ∧ q ≤ 9) then 2 else if T 6 i.toNat = 5 then 3 else 0
def a_step (T : wa_St) (i q : Int) : wa_St := wa_s (wa_s (wa_s T 0 0 0) 5 (5 * i.toNat + (T 6 i.toNat).toNat) q) 6 i.toNat (T 6 i.toNat + 1)
def k_change (T : wa_St) (i q : Int) : Int := if (0 ≤ i ∧ i ≤ 9) ∧ (q = -1 ∨ (0 ≤ q ∧ q ≤ T 3 i.toNat - 1)) then 0 else 1
def a_change (T : wa_St) (i q : Int) : wa_St := if q = -1 then wa_s (wa_s (wa_s T 0 0 0) 3 i.toNat (T 3 i.toNat + 1)) 2 i.toNat (T 3 i.toNat + 1) else wa_s (wa_s (wa_s T 0 0 0) 3 i.toNat (T 3 i.toNat + 0)) 2 i.toNat q
end
section
/-! contracts of the reference, first part (laid by program) -/
set_option maxRecDepth 100000 in
set_option maxHeartbeats 4000000 in
/-- isIn(v, low, high) -/
theorem c_X5_isIn (l : Launch) (D : va_G) (cy : Nat → ClassId) (ad : Nat → Nat → Nat) (S X T : wa_St) (o : Int64) (v lo hi : Int) (rv : wa_r v) (rlo : wa_r lo) (rhi : wa_r hi) : Met l yX5_isIn wX5_isIn ({ frames := 0, cells := 0, slots := 0, locals := 0 } : Room) (wa_pc [.int (iI v), .int (iI lo), .int (iI hi)] D cy (fun H => wa_wd D ad (wW cy ad S X T o) H)) (wa_Qp (bI (lo ≤ v ∧ v ≤ hi))) 0 0 (fun _ => False) := by
  refine wa_en (by decide +kernel) (Nat.le_of_ble_eq_true rfl) ?_
  intro p e s m args below meth c F hw ls hl
  have F : wa_fx p s m c meth args cX5_isIn 3 RX5 "isIn" (Option.some FieldType.boolean) D cy := F
  have hw : wa_wd D ad (wW cy ad S X T o) s.heap := hw
  have hl : lv_has ls 3 [(0, .int (iI v)), (1, .int (iI lo)), (2, .int (iI hi))] := hl
  obtain ⟨hx, hb, hml, hown, hts⟩ := id F.1
  refine lv_iload_n hx hb dX5_isIn_0 rfl (lv_at hl 0 rfl) ?_
  refine lv_iload_n hx hb dX5_isIn_1 rfl (lv_at hl 1 rfl) ?_
  refine wa_ic_lt (tgt := 14) F dX5_isIn_2 (by decide) (by exact ⟨by omega, by omega⟩) (by exact ⟨by omega, by omega⟩) (fun c2 => ?_) (fun c2 => ?_)
  · skip
    refine wa_const F dX5_isIn_14 ?_
    exact wa_epz F (bI_f (by omega)).symm (by decide) dX5_isIn_15
  · skip
    refine lv_iload_n hx hb dX5_isIn_5 rfl (lv_at hl 0 rfl) ?_
    refine lv_iload_n hx hb dX5_isIn_6 rfl (lv_at hl 2 rfl) ?_
    refine wa_ic_gt (tgt := 14) F dX5_isIn_7 (by decide) (by exact ⟨by omega, by omega⟩) (by exact ⟨by omega, by omega⟩) (fun c7 => ?_) (fun c7 => ?_)
    · skip
      refine wa_const F dX5_isIn_14 ?_
      exact wa_epz F (bI_f (by omega)).symm (by decide) dX5_isIn_15
    · skip
      refine wa_const F dX5_isIn_10 ?_
      refine wa_goto (tgt := 15) F dX5_isIn_11 (by decide) ?_
      exact wa_epz F (bI_t ⟨by omega, by omega⟩).symm (by decide) dX5_isIn_15
set_option maxRecDepth 100000 in
set_option maxHeartbeats 4000000 in
/-- isImage -/
theorem c_X5_isImage (l : Launch) (D : va_G) (cy : Nat → ClassId) (ad : Nat → Nat → Nat) (S X T : wa_St) (o : Int64) (hwf : wf T) (i : Int) (ri : wa_r i) : Met l yX5_isImage wX5_isImage ({ frames := 1, cells := 0, slots := 0, locals := 22 } : Room) (wa_pc [.ref (ad 6 0), .int (iI i)] D cy (fun H => wa_wd D ad (wW cy ad S X T o) H)) (wa_Qp (bI (f_isImage T i))) 0 0 (fun _ => False) := by
  refine wa_en (by decide +kernel) (Nat.le_of_ble_eq_true rfl) ?_
  intro p e s m args below meth c F hw ls hl
  have F : wa_fx p s m c meth args cX5_isImage 2 RX5 "isImage" (Option.some FieldType.boolean) D cy := F
  have hw : wa_wd D ad (wW cy ad S X T o) s.heap := hw
  have hl : lv_has ls 2 [(0, .ref (ad 6 0)), (1, .int (iI i))] := hl
  obtain ⟨hx, hb, hml, hown, hts⟩ := id F.1
  obtain ⟨hB, w8, w21, w12, w29, w4, w7, w6, w5, w13, w25, w26, w28, w14, w3⟩ := id hwf
  refine lv_iload_n hx hb dX5_isImage_0 rfl (lv_at hl 1 rfl) ?_
  refine wa_const F dX5_isImage_1 ?_
  refine lv_aload_n hx hb dX5_isImage_2 rfl (lv_at hl 0 rfl) ?_
  refine gX5_93 F hw rfl (v := .int (iI (T 8 0))) rfl dX5_isImage_3 ?_
  refine wa_const F dX5_isImage_6 ?_
  refine wa_sub F dX5_isImage_7 ?_
  refine wa_cp (kX5_96 F (c_X5_isIn l D cy ad S X T o (i) (0) (((T 8 0) - 1)) (by exact ⟨by omega, by omega⟩) (by decide) (by have q0 := hB 8 0; exact ⟨by omega, by omega⟩)) ⟨by decide, by decide⟩ ⟨rfl, rfl⟩ hw rfl rfl (Nat.le_of_ble_eq_true rfl) hl.1 dX5_isImage_8 ⟨Nat.le_refl _, Nat.le_refl _⟩) ?_
  by_cases b8 : 0 ≤ i ∧ i ≤ ((T 8 0) - 1)
  · rw [bI_t b8]
    exact wa_epz F (by first | rfl | omega) (by decide) dX5_isImage_11
  · rw [bI_f b8]
    exact wa_epz F (by first | rfl | omega) (by decide) dX5_isImage_11
set_option maxRecDepth 100000 in
set_option maxHeartbeats 4000000 in
/-- isBake -/
theorem c_X5_isBake (l : Launch) (D : va_G) (cy : Nat → ClassId) (ad : Nat → Nat → Nat) (S X T : wa_St) (o : Int64) (hwf : wf T) (i : Int) (ri : wa_r i) : Met l yX5_isBake wX5_isBake ({ frames := 1, cells := 0, slots := 0, locals := 22 } : Room) (wa_pc [.ref (ad 6 0), .int (iI i)] D cy (fun H => wa_wd D ad (wW cy ad S X T o) H)) (wa_Qp (bI (f_isBake T i))) 0 0 (fun _ => False) := by
  refine wa_en (by decide +kernel) (Nat.le_of_ble_eq_true rfl) ?_
  intro p e s m args below meth c F hw ls hl
  have F : wa_fx p s m c meth args cX5_isBake 2 RX5 "isBake" (Option.some FieldType.boolean) D cy := F
  have hw : wa_wd D ad (wW cy ad S X T o) s.heap := hw
  have hl : lv_has ls 2 [(0, .ref (ad 6 0)), (1, .int (iI i))] := hl
  obtain ⟨hx, hb, hml, hown, hts⟩ := id F.1
  obtain ⟨hB, w8, w21, w12, w29, w4, w7, w6, w5, w13, w25, w26, w28, w14, w3⟩ := id hwf
  refine lv_iload_n hx hb dX5_isBake_0 rfl (lv_at hl 1 rfl) ?_
  refine wa_const F dX5_isBake_1 ?_
  refine lv_aload_n hx hb dX5_isBake_2 rfl (lv_at hl 0 rfl) ?_
  refine gX5_100 F hw rfl (v := .int (iI (T 21 0))) rfl dX5_isBake_3 ?_
  refine wa_const F dX5_isBake_6 ?_
  refine wa_sub F dX5_isBake_7 ?_
  refine wa_cp (kX5_96 F (c_X5_isIn l D cy ad S X T o (i) (0) (((T 21 0) - 1)) (by exact ⟨by omega, by omega⟩) (by decide) (by have q0 := hB 21 0; exact ⟨by omega, by omega⟩)) ⟨by decide, by decide⟩ ⟨rfl, rfl⟩ hw rfl rfl (Nat.le_of_ble_eq_true rfl) hl.1 dX5_isBake_8 ⟨Nat.le_refl _, Nat.le_refl _⟩) ?_
  by_cases b8 : 0 ≤ i ∧ i ≤ ((T 21 0) - 1)
  · rw [bI_t b8]
    exact wa_epz F (by first | rfl | omega) (by decide) dX5_isBake_11
  · rw [bI_f b8]
    exact wa_epz F (by first | rfl | omega) (by decide) dX5_isBake_11
set_option maxRecDepth 100000 in
set_option maxHeartbeats 4000000 in
/-- isFine(k) -/
theorem c_X5_isFine (l : Launch) (D : va_G) (cy : Nat → ClassId) (ad : Nat → Nat → Nat) (S X T : wa_St) (o : Int64) (A : Nat → Prop) (hj : wa_wj A ad (wW cy ad S X T o)) (k : Int) (rk : wa_r k) : Met l yX5_isFine wX5_isFine ({ frames := 0, cells := 0, slots := 0, locals := 0 } : Room) (wa_pc [.ref (ad 6 0), .int (iI k)] D cy (fun H => wa_wd D ad (wW cy ad S X T o) H)) (wa_Qi A D ad (wW cy ad S X (wa_s T 0 0 k) o) (bI (k = 0))) 0 0 A := by
  refine wa_en (by decide +kernel) (Nat.le_of_ble_eq_true rfl) ?_
  intro p e s m args below meth c F hw ls hl
  have F : wa_fx p s m c meth args cX5_isFine 2 RX5 "isFine" (Option.some FieldType.boolean) D cy := F
  have hw : wa_wd D ad (wW cy ad S X T o) s.heap := hw
  have hl : lv_has ls 2 [(0, .ref (ad 6 0)), (1, .int (iI k))] := hl
  obtain ⟨hx, hb, hml, hown, hts⟩ := id F.1
  have hS : va_S A s.heap s.heap [] := va_S.rf
  refine lv_aload_n hx hb dX5_isFine_0 rfl (lv_at hl 0 rfl) ?_
  refine lv_iload_n hx hb dX5_isFine_1 rfl (lv_at hl 1 rfl) ?_
  refine pM_90 F hw (wm_j hj _ _) hS dX5_isFine_2 (fun H locs hw hS => ?_)
  refine lv_iload_n hx hb dX5_isFine_5 rfl (lv_at hl 1 rfl) ?_
  refine wa_if_ne (tgt := 13) F dX5_isFine_6 (by decide) (by exact ⟨by omega, by omega⟩) (fun c6 => ?_) (fun c6 => ?_)
  · skip
    refine wa_const F dX5_isFine_13 ?_
    exact wa_eiz F hw hS (bI_f (by omega)).symm (by decide) dX5_isFine_14
  · skip
    refine wa_const F dX5_isFine_9 ?_
    refine wa_goto (tgt := 14) F dX5_isFine_10 (by decide) ?_
    exact wa_eiz F hw hS (bI_t (by omega)).symm (by decide) dX5_isFine_14
set_option maxRecDepth 100000 in
set_option maxHeartbeats 4000000 in
/-- thrown() -/
theorem c_X5_thrown (l : Launch) (D : va_G) (cy : Nat → ClassId) (ad : Nat → Nat → Nat) (S X T : wa_St) (o : Int64) : Met l yX5_thrown wX5_thrown ({ frames := 0, cells := 0, slots := 0, locals := 0 } : Room) (wa_pc [.ref (ad 6 0)] D cy (fun H => wa_wd D ad (wW cy ad S X T o) H)) (wa_Qp (T 0 0)) 0 0 (fun _ => False) := by
  refine wa_en (by decide +kernel) (Nat.le_of_ble_eq_true rfl) ?_
  intro p e s m args below meth c F hw ls hl
  have F : wa_fx p s m c meth args cX5_thrown 1 RX5 "thrown" (Option.some FieldType.int) D cy := F
  have hw : wa_wd D ad (wW cy ad S X T o) s.heap := hw
  have hl : lv_has ls 1 [(0, .ref (ad 6 0))] := hl
  obtain ⟨hx, hb, hml, hown, hts⟩ := id F.1
  have hB : True := trivial
  refine lv_aload_n hx hb dX5_thrown_0 rfl (lv_at hl 0 rfl) ?_
  refine gX5_90 F hw rfl (v := .int (iI (T 0 0))) rfl dX5_thrown_1 ?_
  exact wa_ep F rfl dX5_thrown_4
end
section
/-! contracts of the reference, second part (laid by program) -/
set_option maxRecDepth 100000 in
set_option maxHeartbeats 4000000 in
/-- find: the layer of some things -/
theorem c_X5_find (l : Launch) (D : va_G) (cy : Nat → ClassId) (ad : Nat → Nat → Nat) (S X T : wa_St) (o : Int64) (hwf : wf T) (lo inp ver : Int) (rlo : wa_r lo) (rinp : wa_r inp) (rver : wa_r ver) : Met l yX5_find wX5_find ({ frames := 0, cells := 0, slots := 0, locals := 0 } : Room) (wa_pc [.ref (ad 6 0), .int (iI lo), .int (iI inp), .int (iI ver)] D cy (fun H => wa_wd D ad (wW cy ad S X T o) H)) (wa_Qp (f_find T lo inp ver)) 0 0 (fun _ => False) := by
  refine wa_en (by decide +kernel) (Nat.le_of_ble_eq_true rfl) ?_
  intro p e s m args below meth c F hw ls hl
  have F : wa_fx p s m c meth args cX5_find 5 RX5 "find" (Option.some FieldType.int) D cy := F
  have hw : wa_wd D ad (wW cy ad S X T o) s.heap := hw
  have hl : lv_has ls 5 [(0, .ref (ad 6 0)), (1, .int (iI lo)), (2, .int (iI inp)), (3, .int (iI ver))] := hl
  obtain ⟨hx, hb, hml, hown, hts⟩ := id F.1
  obtain ⟨hB, w8, w21, w12, w29, w4, w7, w6, w5, w13, w25, w26, w28, w14, w3⟩ := id hwf
  refine wa_const F dX5_find_0 ?_
  refine lv_istore (lv' := [(4, .int (iI 0)), (0, .ref (ad 6 0)), (1, .int (iI lo)), (2, .int (iI inp)), (3, .int (iI ver))]) hx hb dX5_find_1 hl (by decide) rfl (fun ls hl => ?_)
  have loop3 : ∀ (k : Nat) (lx : Nat), lx + k = (T 12 0).toNat → f_fnd (fun l => decide (T 9 l = lo ∧ T 10 l = inp ∧ T 11 l = ver)) k lx = f_find T lo inp ver → ∀ ls : Array Slot, lv_has ls 5 [(0, .ref (ad 6 0)), (1, .int (iI lo)), (2, .int (iI inp)), (3, .int (iI ver)), (4, .int (iI (lx : Int)))] → W p l e ({ frames := 0, cells := 0, slots := 0, locals := 0 } : Room) s m args below meth c s.heap [] 0 0 (MQ below (wa_Qp (f_find T lo inp ver)) args s 0 0 (fun _ => False)) (F0 m 3 ls []) := by
    intro k
    induction k with
    | zero =>
      intro lx hk hr ls hl
      refine lv_iload hx hb dX5_find_3 (lv_at hl 4 rfl) ?_
      refine lv_aload_n hx hb dX5_find_5 rfl (lv_at hl 0 rfl) ?_
      refine gX5_110 F hw rfl (v := .int (iI (T 12 0))) rfl dX5_find_6 ?_
      refine wa_ic_ge (tgt := 54) F dX5_find_9 (by decide) (by exact ⟨by omega, by omega⟩) (by have q0 := hB 12 0; exact ⟨by omega, by omega⟩) (fun c9 => ?_) (fun c9 => absurd c9 (by omega))
      refine wa_bi F dX5_find_54 (by decide +kernel) ?_
      exact wa_ep F (by rw [← hr]; rfl) dX5_find_56
    | succ k ih3 =>
      intro lx hk hr ls hl
      refine lv_iload hx hb dX5_find_3 (lv_at hl 4 rfl) ?_
      refine lv_aload_n hx hb dX5_find_5 rfl (lv_at hl 0 rfl) ?_
      refine gX5_110 F hw rfl (v := .int (iI (T 12 0))) rfl dX5_find_6 ?_
      refine wa_ic_ge (tgt := 54) F dX5_find_9 (by decide) (by exact ⟨by omega, by omega⟩) (by have q0 := hB 12 0; exact ⟨by omega, by omega⟩) (fun c9 => absurd c9 (by omega)) (fun c9 => ?_)
      refine lv_aload_n hx hb dX5_find_12 rfl (lv_at hl 0 rfl) ?_
      refine gX5_28 F hw rfl (v := .ref (ad 6 9)) rfl dX5_find_13 ?_
      refine lv_iload hx hb dX5_find_16 (lv_at hl 4 rfl) ?_
      refine aM_9 F hw lx rfl (by omega) dX5_find_18 ?_
      refine lv_iload_n hx hb dX5_find_19 rfl (lv_at hl 1 rfl) ?_
      refine wa_ic_ne (tgt := 48) F dX5_find_20 (by decide) (by have q0 := hB 9 lx; exact ⟨by omega, by omega⟩) (by exact ⟨by omega, by omega⟩) (fun c20 => ?_) (fun c20 => ?_)
      · skip
        refine wa_inc (k := 4) (b := ((lx + 1) : Int)) (lv' := [(4, .int (iI ((lx + 1) : Int))), (0, .ref (ad 6 0)), (1, .int (iI lo)), (2, .int (iI inp)), (3, .int (iI ver))]) F dX5_find_48 hl rfl (by omega) (by decide) rfl (fun ls hl => ?_)
        refine wa_goto (tgt := 3) F dX5_find_51 (by decide) ?_
        exact ih3 (lx + 1) (by omega) (by rw [← hr]; simp [f_fnd, c9, c20]) ls (lv_sub hl [1, 2, 3, 4, 0] rfl)
      · skip
        refine lv_aload_n hx hb dX5_find_23 rfl (lv_at hl 0 rfl) ?_
        refine gX5_31 F hw rfl (v := .ref (ad 6 10)) rfl dX5_find_24 ?_
        refine lv_iload hx hb dX5_find_27 (lv_at hl 4 rfl) ?_
        refine aM_10 F hw lx rfl (by omega) dX5_find_29 ?_
        refine lv_iload_n hx hb dX5_find_30 rfl (lv_at hl 2 rfl) ?_
        refine wa_ic_ne (tgt := 48) F dX5_find_31 (by decide) (by have q0 := hB 10 lx; exact ⟨by omega, by omega⟩) (by exact ⟨by omega, by omega⟩) (fun c31 => ?_) (fun c31 => ?_)
        · skip
          refine wa_inc (k := 4) (b := ((lx + 1) : Int)) (lv' := [(4, .int (iI ((lx + 1) : Int))), (0, .ref (ad 6 0)), (1, .int (iI lo)), (2, .int (iI inp)), (3, .int (iI ver))]) F dX5_find_48 hl rfl (by omega) (by decide) rfl (fun ls hl => ?_)
          refine wa_goto (tgt := 3) F dX5_find_51 (by decide) ?_
          exact ih3 (lx + 1) (by omega) (by rw [← hr]; simp [f_fnd, c9, c20, c31]) ls (lv_sub hl [1, 2, 3, 4, 0] rfl)
        · skip
          refine lv_aload_n hx hb dX5_find_34 rfl (lv_at hl 0 rfl) ?_
          refine gX5_34 F hw rfl (v := .ref (ad 6 11)) rfl dX5_find_35 ?_
          refine lv_iload hx hb dX5_find_38 (lv_at hl 4 rfl) ?_
          refine aM_11 F hw lx rfl (by omega) dX5_find_40 ?_
          refine lv_iload_n hx hb dX5_find_41 rfl (lv_at hl 3 rfl) ?_
          refine wa_ic_ne (tgt := 48) F dX5_find_42 (by decide) (by have q0 := hB 11 lx; exact ⟨by omega, by omega⟩) (by exact ⟨by omega, by omega⟩) (fun c42 => ?_) (fun c42 => ?_)
          · skip
            refine wa_inc (k := 4) (b := ((lx + 1) : Int)) (lv' := [(4, .int (iI ((lx + 1) : Int))), (0, .ref (ad 6 0)), (1, .int (iI lo)), (2, .int (iI inp)), (3, .int (iI ver))]) F dX5_find_48 hl rfl (by omega) (by decide) rfl (fun ls hl => ?_)
            refine wa_goto (tgt := 3) F dX5_find_51 (by decide) ?_
            exact ih3 (lx + 1) (by omega) (by rw [← hr]; simp [f_fnd, c9, c20, c31, c42]) ls (lv_sub hl [1, 2, 3, 4, 0] rfl)
          · skip
            refine lv_iload hx hb dX5_find_45 (lv_at hl 4 rfl) ?_
            exact wa_ep F (by rw [← hr]; simp [f_fnd, c9, c20, c31, c42]) dX5_find_47
  exact loop3 ((T 12 0).toNat) 0 (by omega) rfl ls (lv_sub hl [1, 2, 3, 4, 0] rfl)
set_option maxRecDepth 100000 in
set_option maxHeartbeats 4000000 in
/-- hasBase -/
theorem c_X5_hasBase (l : Launch) (D : va_G) (cy : Nat → ClassId) (ad : Nat → Nat → Nat) (S X T : wa_St) (o : Int64) (hwf : wf T) (i : Nat) (hi : (i : Int) < T 8 0) : Met l yX5_hasBase wX5_hasBase ({ frames := 0, cells := 0, slots := 0, locals := 0 } : Room) (wa_pc [.ref (ad 6 0), .int (iI (i : Int))] D cy (fun H => wa_wd D ad (wW cy ad S X T o) H)) (wa_Qp (bI (f_hasBase T i))) 0 0 (fun _ => False) := by
  refine wa_en (by decide +kernel) (Nat.le_of_ble_eq_true rfl) ?_
  intro p e s m args below meth c F hw ls hl
  have F : wa_fx p s m c meth args cX5_hasBase 2 RX5 "hasBase" (Option.some FieldType.boolean) D cy := F
  have hw : wa_wd D ad (wW cy ad S X T o) s.heap := hw
  have hl : lv_has ls 2 [(0, .ref (ad 6 0)), (1, .int (iI (i : Int)))] := hl
  obtain ⟨hx, hb, hml, hown, hts⟩ := id F.1
  obtain ⟨hB, w8, w21, w12, w29, w4, w7, w6, w5, w13, w25, w26, w28, w14, w3⟩ := id hwf
  have w4i := w4 i hi
  refine lv_aload_n hx hb dX5_hasBase_0 rfl (lv_at hl 0 rfl) ?_
  refine gX5_16 F hw rfl (v := .ref (ad 6 4)) rfl dX5_hasBase_1 ?_
  refine lv_iload_n hx hb dX5_hasBase_4 rfl (lv_at hl 1 rfl) ?_
  refine aM_4 F hw i rfl (by omega) dX5_hasBase_5 ?_
  refine wa_const F dX5_hasBase_6 ?_
  refine wa_ic_eq (tgt := 25) F dX5_hasBase_7 (by decide) (by have q0 := hB 4 i; exact ⟨by omega, by omega⟩) (by decide) (fun c7 => ?_) (fun c7 => ?_)
  · skip
    refine wa_const F dX5_hasBase_25 ?_
    refine wa_goto (tgt := 30) F dX5_hasBase_26 (by decide) ?_
    exact wa_epz F (bI_t (by first | omega | simp [f_hasBase, c7])).symm (by decide) dX5_hasBase_30
  · skip
    refine lv_aload_n hx hb dX5_hasBase_10 rfl (lv_at hl 0 rfl) ?_
    refine gX5_25 F hw rfl (v := .ref (ad 6 7)) rfl dX5_hasBase_11 ?_
    refine lv_aload_n hx hb dX5_hasBase_14 rfl (lv_at hl 0 rfl) ?_
    refine gX5_16 F hw rfl (v := .ref (ad 6 4)) rfl dX5_hasBase_15 ?_
    refine lv_iload_n hx hb dX5_hasBase_18 rfl (lv_at hl 1 rfl) ?_
    refine aM_4 F hw i rfl (by omega) dX5_hasBase_19 ?_
    refine aM_7 F hw (((T 4 i)).toNat) (by have q0 := hB 4 i; omega) (by have q0 := hB 4 i; omega) dX5_hasBase_20 ?_
    refine wa_const F dX5_hasBase_21 ?_
    refine wa_ic_eq (tgt := 29) F dX5_hasBase_22 (by decide) (by have q0 := hB 7 (((T 4 i)).toNat); exact ⟨by omega, by omega⟩) (by decide) (fun c22 => ?_) (fun c22 => ?_)
    · skip
      refine wa_const F dX5_hasBase_29 ?_
      exact wa_epz F (bI_f (by first | omega | simp [f_hasBase, c7, c22])).symm (by decide) dX5_hasBase_30
    · skip
      refine wa_const F dX5_hasBase_25 ?_
      refine wa_goto (tgt := 30) F dX5_hasBase_26 (by decide) ?_
      exact wa_epz F (bI_t (by first | omega | simp [f_hasBase, c7, c22])).symm (by decide) dX5_hasBase_30
set_option maxRecDepth 100000 in
set_option maxHeartbeats 4000000 in
/-- baseOf -/
theorem c_X5_baseOf (l : Launch) (D : va_G) (cy : Nat → ClassId) (ad : Nat → Nat → Nat) (S X T : wa_St) (o : Int64) (hwf : wf T) (i : Nat) (hi : (i : Int) < T 8 0) (hb9 : f_hasBase T i) : Met l yX5_baseOf wX5_baseOf ({ frames := 0, cells := 0, slots := 0, locals := 0 } : Room) (wa_pc [.ref (ad 6 0), .int (iI (i : Int))] D cy (fun H => wa_wd D ad (wW cy ad S X T o) H)) (wa_Qp (f_base T i)) 0 0 (fun _ => False) := by
  refine wa_en (by decide +kernel) (Nat.le_of_ble_eq_true rfl) ?_
  intro p e s m args below meth c F hw ls hl
  have F : wa_fx p s m c meth args cX5_baseOf 2 RX5 "baseOf" (Option.some FieldType.int) D cy := F
  have hw : wa_wd D ad (wW cy ad S X T o) s.heap := hw
  have hl : lv_has ls 2 [(0, .ref (ad 6 0)), (1, .int (iI (i : Int)))] := hl
  obtain ⟨hx, hb, hml, hown, hts⟩ := id F.1
  obtain ⟨hB, w8, w21, w12, w29, w4, w7, w6, w5, w13, w25, w26, w28, w14, w3⟩ := id hwf
  have w4i := w4 i hi
  refine lv_aload_n hx hb dX5_baseOf_0 rfl (lv_at hl 0 rfl) ?_
  refine gX5_16 F hw rfl (v := .ref (ad 6 4)) rfl dX5_baseOf_1 ?_
  refine lv_iload_n hx hb dX5_baseOf_4 rfl (lv_at hl 1 rfl) ?_
  refine aM_4 F hw i rfl (by omega) dX5_baseOf_5 ?_
  refine wa_const F dX5_baseOf_6 ?_
  refine wa_ic_ne (tgt := 14) F dX5_baseOf_7 (by decide) (by have q0 := hB 4 i; exact ⟨by omega, by omega⟩) (by decide) (fun c7 => ?_) (fun c7 => ?_)
  · skip
    have hbn : T 7 (T 4 i).toNat ≠ -1 := hb9.resolve_left c7
    refine lv_aload_n hx hb dX5_baseOf_14 rfl (lv_at hl 0 rfl) ?_
    refine gX5_40 F hw rfl (v := .ref (ad 6 14)) rfl dX5_baseOf_15 ?_
    refine lv_aload_n hx hb dX5_baseOf_18 rfl (lv_at hl 0 rfl) ?_
    refine gX5_25 F hw rfl (v := .ref (ad 6 7)) rfl dX5_baseOf_19 ?_
    refine lv_aload_n hx hb dX5_baseOf_22 rfl (lv_at hl 0 rfl) ?_
    refine gX5_16 F hw rfl (v := .ref (ad 6 4)) rfl dX5_baseOf_23 ?_
    refine lv_iload_n hx hb dX5_baseOf_26 rfl (lv_at hl 1 rfl) ?_
    refine aM_4 F hw i rfl (by omega) dX5_baseOf_27 ?_
    refine aM_7 F hw (((T 4 i)).toNat) (by have q0 := hB 4 i; omega) (by have q0 := hB 4 i; omega) dX5_baseOf_28 ?_
    have w7p := w7 (T 4 i).toNat (by omega)
    refine aM_14 F hw (((T 7 (((T 4 i)).toNat))).toNat) (by have q0 := hB 7 (((T 4 i)).toNat); omega) (by have q0 := hB 7 (((T 4 i)).toNat); have q1 := hB 7 (T 4 i).toNat; omega) dX5_baseOf_29 ?_
    exact wa_ep F (by unfold f_base; simp [c7]) dX5_baseOf_30
  · skip
    refine wa_const F dX5_baseOf_10 ?_
    refine wa_goto (tgt := 30) F dX5_baseOf_11 (by decide) ?_
    exact wa_ep F (by unfold f_base; simp [c7]) dX5_baseOf_30
set_option maxRecDepth 100000 in
set_option maxHeartbeats 4000000 in
/-- topNow -/
theorem c_X5_topNow (l : Launch) (D : va_G) (cy : Nat → ClassId) (ad : Nat → Nat → Nat) (S X T : wa_St) (o : Int64) (hwf : wf T) (i : Nat) (hi : (i : Int) < T 8 0) (hb9 : f_hasBase T i) : Met l yX5_topNow wX5_topNow ({ frames := 1, cells := 0, slots := 0, locals := 24 } : Room) (wa_pc [.ref (ad 6 0), .int (iI (i : Int))] D cy (fun H => wa_wd D ad (wW cy ad S X T o) H)) (wa_Qp (f_topNow T i)) 0 0 (fun _ => False) := by
  refine wa_en (by decide +kernel) (Nat.le_of_ble_eq_true rfl) ?_
  intro p e s m args below meth c F hw ls hl
  have F : wa_fx p s m c meth args cX5_topNow 4 RX5 "topNow" (Option.some FieldType.int) D cy := F
  have hw : wa_wd D ad (wW cy ad S X T o) s.heap := hw
  have hl : lv_has ls 4 [(0, .ref (ad 6 0)), (1, .int (iI (i : Int)))] := hl
  obtain ⟨hx, hb, hml, hown, hts⟩ := id F.1
  obtain ⟨hB, w8, w21, w12, w29, w4, w7, w6, w5, w13, w25, w26, w28, w14, w3⟩ := id hwf
  have w4i := w4 i hi
  have w6i := w6 i
  refine lv_aload_n hx hb dX5_topNow_0 rfl (lv_at hl 0 rfl) ?_
  refine lv_iload_n hx hb dX5_topNow_1 rfl (lv_at hl 1 rfl) ?_
  refine wa_cp (kX5_113 F (c_X5_baseOf l D cy ad S X T o hwf (i) (by omega) hb9) ⟨by decide, by decide⟩ ⟨rfl, rfl⟩ hw hw rfl rfl rfl (Nat.le_of_ble_eq_true rfl) hl.1 dX5_topNow_2 ⟨Nat.le_refl _, Nat.le_refl _⟩) ?_
  refine lv_istore_n (lv' := [(2, .int (iI (f_base T i))), (0, .ref (ad 6 0)), (1, .int (iI (i : Int)))]) hx hb dX5_topNow_5 rfl hl (by decide) rfl (fun ls hl => ?_)
  refine wa_const F dX5_topNow_6 ?_
  refine lv_iload_n hx hb dX5_topNow_7 rfl (lv_at hl 2 rfl) ?_
  refine wa_mul F dX5_topNow_8 ?_
  refine lv_istore_n (lv' := [(3, .int (iI (5 * (i : Int)))), (2, .int (iI (f_base T i))), (0, .ref (ad 6 0)), (1, .int (iI (i : Int)))]) hx hb dX5_topNow_9 rfl hl (by decide) rfl (fun ls hl => ?_)
  have loop10 : ∀ (k : Nat) (sx : Nat) (z : Int), sx + k = 5 * i + (T 6 i).toNat → -2 ≤ z ∧ z ≤ 100000 → f_top T k sx z = f_topNow T i → ∀ ls : Array Slot, lv_has ls 4 [(0, .ref (ad 6 0)), (1, .int (iI (i : Int))), (2, .int (iI z)), (3, .int (iI (sx : Int)))] → W p l e ({ frames := 1, cells := 0, slots := 0, locals := 24 } : Room) s m args below meth c s.heap [] 0 0 (MQ below (wa_Qp (f_topNow T i)) args s 0 0 (fun _ => False)) (F0 m 10 ls []) := by
    intro k
    induction k with
    | zero =>
      intro sx z hk rz hr ls hl
      refine lv_iload_n hx hb dX5_topNow_10 rfl (lv_at hl 3 rfl) ?_
      refine wa_const F dX5_topNow_11 ?_
      refine lv_iload_n hx hb dX5_topNow_12 rfl (lv_at hl 1 rfl) ?_
      refine wa_mul F dX5_topNow_13 ?_
      refine lv_aload_n hx hb dX5_topNow_14 rfl (lv_at hl 0 rfl) ?_
      refine gX5_22 F hw rfl (v := .ref (ad 6 6)) rfl dX5_topNow_15 ?_
      refine lv_iload_n hx hb dX5_topNow_18 rfl (lv_at hl 1 rfl) ?_
      refine aM_6 F hw i rfl (by omega) dX5_topNow_19 ?_
      refine wa_add F dX5_topNow_20 ?_
      refine wa_ic_ge (tgt := 59) F dX5_topNow_21 (by decide) (by exact ⟨by omega, by omega⟩) (by have q0 := hB 6 i; exact ⟨by omega, by omega⟩) (fun c21 => ?_) (fun c21 => absurd c21 (by omega))
      refine lv_iload_n hx hb dX5_topNow_59 rfl (lv_at hl 2 rfl) ?_
      exact wa_ep F (by rw [← hr]; rfl) dX5_topNow_60
    | succ k ih10 =>
      intro sx z hk rz hr ls hl
      refine lv_iload_n hx hb dX5_topNow_10 rfl (lv_at hl 3 rfl) ?_
      refine wa_const F dX5_topNow_11 ?_
      refine lv_iload_n hx hb dX5_topNow_12 rfl (lv_at hl 1 rfl) ?_
      refine wa_mul F dX5_topNow_13 ?_
      refine lv_aload_n hx hb dX5_topNow_14 rfl (lv_at hl 0 rfl) ?_
      refine gX5_22 F hw rfl (v := .ref (ad 6 6)) rfl dX5_topNow_15 ?_
      refine lv_iload_n hx hb dX5_topNow_18 rfl (lv_at hl 1 rfl) ?_
      refine aM_6 F hw i rfl (by omega) dX5_topNow_19 ?_
      refine wa_add F dX5_topNow_20 ?_
      refine wa_ic_ge (tgt := 59) F dX5_topNow_21 (by decide) (by exact ⟨by omega, by omega⟩) (by have q0 := hB 6 i; exact ⟨by omega, by omega⟩) (fun c21 => absurd c21 (by omega)) (fun c21 => ?_)
      refine lv_iload_n hx hb dX5_topNow_24 rfl (lv_at hl 2 rfl) ?_
      refine wa_bi F dX5_topNow_25 (by decide +kernel) ?_
      refine wa_ic_eq (tgt := 59) F dX5_topNow_27 (by decide) (by exact ⟨by omega, by omega⟩) (by decide) (fun c27 => ?_) (fun c27 => ?_)
      · skip
        refine lv_iload_n hx hb dX5_topNow_59 rfl (lv_at hl 2 rfl) ?_
        exact wa_ep F (by rw [← hr, c27]; exact (f_top_m2 T _ _).symm) dX5_topNow_60
      · skip
        refine lv_aload_n hx hb dX5_topNow_30 rfl (lv_at hl 0 rfl) ?_
        refine lv_iload_n hx hb dX5_topNow_31 rfl (lv_at hl 2 rfl) ?_
        refine lv_aload_n hx hb dX5_topNow_32 rfl (lv_at hl 0 rfl) ?_
        refine gX5_19 F hw rfl (v := .ref (ad 6 5)) rfl dX5_topNow_33 ?_
        refine lv_iload_n hx hb dX5_topNow_36 rfl (lv_at hl 3 rfl) ?_
        refine aM_5 F hw sx rfl (by have q0 := w6i; omega) dX5_topNow_37 ?_
        refine lv_aload_n hx hb dX5_topNow_38 rfl (lv_at hl 0 rfl) ?_
        refine gX5_7 F hw rfl (v := .ref (ad 6 2)) rfl dX5_topNow_39 ?_
        refine lv_aload_n hx hb dX5_topNow_42 rfl (lv_at hl 0 rfl) ?_
        refine gX5_19 F hw rfl (v := .ref (ad 6 5)) rfl dX5_topNow_43 ?_
        refine lv_iload_n hx hb dX5_topNow_46 rfl (lv_at hl 3 rfl) ?_
        refine aM_5 F hw sx rfl (by have q0 := w6i; omega) dX5_topNow_47 ?_
        have w5s := w5 sx
        refine aM_2 F hw (((T 5 sx)).toNat) (by have q0 := hB 5 sx; omega) (by have q0 := hB 5 sx; omega) dX5_topNow_48 ?_
        refine wa_cp (kX5_117 F (c_X5_find l D cy ad S X T o hwf z ((T 5 sx)) ((T 2 (((T 5 sx)).toNat))) (by exact ⟨by omega, by omega⟩) (by have q0 := hB 5 sx; exact ⟨by omega, by omega⟩) (by have q0 := hB 2 (((T 5 sx)).toNat); exact ⟨by omega, by omega⟩)) ⟨by decide, by decide⟩ ⟨rfl, rfl⟩ hw hw rfl rfl rfl (Nat.le_of_ble_eq_true rfl) hl.1 dX5_topNow_49 ⟨Nat.le_refl _, Nat.le_refl _⟩) ?_
        refine lv_istore_n (lv' := [(2, .int (iI (f_find T (z) ((T 5 sx)) ((T 2 (((T 5 sx)).toNat)))))), (0, .ref (ad 6 0)), (1, .int (iI (i : Int))), (3, .int (iI (sx : Int)))]) hx hb dX5_topNow_52 rfl hl (by decide) rfl (fun ls hl => ?_)
        refine wa_inc (k := 3) (b := ((sx + 1) : Int)) (lv' := [(3, .int (iI ((sx + 1) : Int))), (2, .int (iI (f_find T (z) ((T 5 sx)) ((T 2 (((T 5 sx)).toNat)))))), (0, .ref (ad 6 0)), (1, .int (iI (i : Int)))]) F dX5_topNow_53 hl rfl (by omega) (by decide) rfl (fun ls hl => ?_)
        refine wa_goto (tgt := 10) F dX5_topNow_56 (by decide) ?_
        exact ih10 (sx + 1) (f_find T (z) ((T 5 sx)) ((T 2 (((T 5 sx)).toNat)))) (by omega) (by have := f_find_rng hwf z (T 5 sx) (T 2 (T 5 sx).toNat); omega) (by rw [← hr]; simp [f_top, c21, c27]) ls (lv_sub hl [2, 3, 1, 0] rfl)
  exact loop10 ((T 6 i).toNat) (5 * i) (f_base T i) (by omega) (f_base_rng hwf i) rfl ls (lv_sub hl [2, 3, 1, 0] rfl)
set_option maxRecDepth 100000 in
set_option maxHeartbeats 4000000 in
/-- isAlike -/
theorem c_X5_isAlike (l : Launch) (D : va_G) (cy : Nat → ClassId) (ad : Nat → Nat → Nat) (S X T : wa_St) (o : Int64) (hwf : wf T) (i : Nat) (hi : (i : Int) < T 8 0) (hb9 : f_hasBase T i) : Met l yX5_isAlike wX5_isAlike ({ frames := 2, cells := 0, slots := 0, locals := 47 } : Room) (wa_pc [.ref (ad 6 0), .int (iI (i : Int))] D cy (fun H => wa_wd D ad (wW cy ad S X T o) H)) (wa_Qp (bI (f_alike T i))) 0 0 (fun _ => False) := by
  refine wa_en (by decide +kernel) (Nat.le_of_ble_eq_true rfl) ?_
  intro p e s m args below meth c F hw ls hl
  have F : wa_fx p s m c meth args cX5_isAlike 2 RX5 "isAlike" (Option.some FieldType.boolean) D cy := F
  have hw : wa_wd D ad (wW cy ad S X T o) s.heap := hw
  have hl : lv_has ls 2 [(0, .ref (ad 6 0)), (1, .int (iI (i : Int)))] := hl
  obtain ⟨hx, hb, hml, hown, hts⟩ := id F.1
  obtain ⟨hB, w8, w21, w12, w29, w4, w7, w6, w5, w13, w25, w26, w28, w14, w3⟩ := id hwf
  have w7i := w7 i hi
  refine lv_aload_n hx hb dX5_isAlike_0 rfl (lv_at hl 0 rfl) ?_
  refine gX5_25 F hw rfl (v := .ref (ad 6 7)) rfl dX5_isAlike_1 ?_
  refine lv_iload_n hx hb dX5_isAlike_4 rfl (lv_at hl 1 rfl) ?_
  refine aM_7 F hw i rfl (by omega) dX5_isAlike_5 ?_
  refine wa_const F dX5_isAlike_6 ?_
  refine wa_ic_eq (tgt := 33) F dX5_isAlike_7 (by decide) (by have q0 := hB 7 i; exact ⟨by omega, by omega⟩) (by decide) (fun c7 => ?_) (fun c7 => ?_)
  · skip
    refine wa_const F dX5_isAlike_33 ?_
    exact wa_epz F (bI_f (by first | omega | simp [f_alike, c7])).symm (by decide) dX5_isAlike_34
  · skip
    refine lv_aload_n hx hb dX5_isAlike_10 rfl (lv_at hl 0 rfl) ?_
    refine lv_iload_n hx hb dX5_isAlike_11 rfl (lv_at hl 1 rfl) ?_
    refine wa_cp (kX5_121 F (c_X5_topNow l D cy ad S X T o hwf (i) (by omega) hb9) ⟨by decide, by decide⟩ ⟨rfl, rfl⟩ hw hw rfl rfl rfl (Nat.le_of_ble_eq_true rfl) hl.1 dX5_isAlike_12 ⟨Nat.le_refl _, Nat.le_refl _⟩) ?_
    refine lv_aload_n hx hb dX5_isAlike_15 rfl (lv_at hl 0 rfl) ?_
    refine gX5_40 F hw rfl (v := .ref (ad 6 14)) rfl dX5_isAlike_16 ?_
    refine lv_aload_n hx hb dX5_isAlike_19 rfl (lv_at hl 0 rfl) ?_
    refine gX5_25 F hw rfl (v := .ref (ad 6 7)) rfl dX5_isAlike_20 ?_
    refine lv_iload_n hx hb dX5_isAlike_23 rfl (lv_at hl 1 rfl) ?_
    refine aM_7 F hw i rfl (by omega) dX5_isAlike_24 ?_
    refine aM_14 F hw (((T 7 i)).toNat) (by have q0 := hB 7 i; omega) (by have q0 := hB 7 i; omega) dX5_isAlike_25 ?_
    refine wa_ic_ne (tgt := 33) F dX5_isAlike_26 (by decide) (by have q0 := f_topNow_rng hwf i; exact ⟨by omega, by omega⟩) (by have q0 := hB 14 (((T 7 i)).toNat); exact ⟨by omega, by omega⟩) (fun c26 => ?_) (fun c26 => ?_)
    · skip
      refine wa_const F dX5_isAlike_33 ?_
      exact wa_epz F (bI_f (by first | omega | simp [f_alike, c7, c26])).symm (by decide) dX5_isAlike_34
    · skip
      refine wa_const F dX5_isAlike_29 ?_
      refine wa_goto (tgt := 34) F dX5_isAlike_30 (by decide) ?_
      exact wa_epz F (bI_t (by first | omega | simp [f_alike, c7, c26])).symm (by decide) dX5_isAlike_34
end
