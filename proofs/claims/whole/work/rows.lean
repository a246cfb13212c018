section
-- ===== PART A: goes FIRST, ahead of the names: the tables' words, and 'selects' of the private methods out of them =====
/-- a private method of a class that the tables say can be made, by its rows of tables_1 -/
def lw_okq (q : MethodName × Nat) : Prop := (q.1.cls ≠ "java/lang/invoke/MethodHandle" ∧ q.1.cls ≠ "java/lang/invoke/VarHandle") ∧ Cond.instantiable q.1.cls q.2 ∈ tables_1 ∧ Cond.privateMethod q.1 ∈ tables_1 ∧ Cond.instanceMethod q.1 ∈ tables_1
theorem lw_p0 : lw_okq (⟨"NightRounds", "refuse", "(I)I"⟩, 10) := ⟨⟨by decide +kernel, by decide +kernel⟩, List.mem_of_getElem? (i := 12) (by decide +kernel), List.mem_of_getElem? (i := 180) (by decide +kernel), List.mem_of_getElem? (i := 181) (by decide +kernel)⟩
theorem lw_p1 : lw_okq (⟨"NightRounds$House", "setCell", "(III)V"⟩, 1) := ⟨⟨by decide +kernel, by decide +kernel⟩, List.mem_of_getElem? (i := 20) (by decide +kernel), List.mem_of_getElem? (i := 199) (by decide +kernel), List.mem_of_getElem? (i := 200) (by decide +kernel)⟩
theorem lw_p2 : lw_okq (⟨"NightRounds$Script", "readActs", "(I)V"⟩, 11) := ⟨⟨by decide +kernel, by decide +kernel⟩, List.mem_of_getElem? (i := 45) (by decide +kernel), List.mem_of_getElem? (i := 267) (by decide +kernel), List.mem_of_getElem? (i := 268) (by decide +kernel)⟩
theorem lw_p3 : lw_okq (⟨"NightRounds$Script", "nextSign", "()I"⟩, 11) := ⟨⟨by decide +kernel, by decide +kernel⟩, List.mem_of_getElem? (i := 45) (by decide +kernel), List.mem_of_getElem? (i := 271) (by decide +kernel), List.mem_of_getElem? (i := 272) (by decide +kernel)⟩
theorem lw_p4 : lw_okq (⟨"NightRounds$Script", "readAct", "(I)V"⟩, 11) := ⟨⟨by decide +kernel, by decide +kernel⟩, List.mem_of_getElem? (i := 45) (by decide +kernel), List.mem_of_getElem? (i := 285) (by decide +kernel), List.mem_of_getElem? (i := 286) (by decide +kernel)⟩
theorem lw_p5 : lw_okq (⟨"NightRounds$Script", "readRest", "(III)V"⟩, 11) := ⟨⟨by decide +kernel, by decide +kernel⟩, List.mem_of_getElem? (i := 45) (by decide +kernel), List.mem_of_getElem? (i := 295) (by decide +kernel), List.mem_of_getElem? (i := 296) (by decide +kernel)⟩
theorem lw_p6 : lw_okq (⟨"NightRounds$Script", "readFigure", "()I"⟩, 11) := ⟨⟨by decide +kernel, by decide +kernel⟩, List.mem_of_getElem? (i := 45) (by decide +kernel), List.mem_of_getElem? (i := 299) (by decide +kernel), List.mem_of_getElem? (i := 300) (by decide +kernel)⟩
theorem lw_p7 : lw_okq (⟨"NightRounds$Script", "readParts", "(IIII)V"⟩, 11) := ⟨⟨by decide +kernel, by decide +kernel⟩, List.mem_of_getElem? (i := 45) (by decide +kernel), List.mem_of_getElem? (i := 303) (by decide +kernel), List.mem_of_getElem? (i := 304) (by decide +kernel)⟩
theorem lw_p8 : lw_okq (⟨"NightRounds$Script", "expect", "(I)V"⟩, 11) := ⟨⟨by decide +kernel, by decide +kernel⟩, List.mem_of_getElem? (i := 45) (by decide +kernel), List.mem_of_getElem? (i := 307) (by decide +kernel), List.mem_of_getElem? (i := 308) (by decide +kernel)⟩
theorem lw_p9 : lw_okq (⟨"NightRounds$Porter", "doActs", "(IIII)Z"⟩, 3) := ⟨⟨by decide +kernel, by decide +kernel⟩, List.mem_of_getElem? (i := 118) (by decide +kernel), List.mem_of_getElem? (i := 320) (by decide +kernel), List.mem_of_getElem? (i := 321) (by decide +kernel)⟩
theorem lw_p10 : lw_okq (⟨"NightRounds$Porter", "doAct", "(III)Z"⟩, 3) := ⟨⟨by decide +kernel, by decide +kernel⟩, List.mem_of_getElem? (i := 118) (by decide +kernel), List.mem_of_getElem? (i := 324) (by decide +kernel), List.mem_of_getElem? (i := 325) (by decide +kernel)⟩
theorem lw_p11 : lw_okq (⟨"NightRounds$Porter", "befalls", "(II)Z"⟩, 3) := ⟨⟨by decide +kernel, by decide +kernel⟩, List.mem_of_getElem? (i := 118) (by decide +kernel), List.mem_of_getElem? (i := 332) (by decide +kernel), List.mem_of_getElem? (i := 333) (by decide +kernel)⟩
theorem lw_p12 : lw_okq (⟨"NightRounds$Porter", "goInto", "(III)Z"⟩, 3) := ⟨⟨by decide +kernel, by decide +kernel⟩, List.mem_of_getElem? (i := 118) (by decide +kernel), List.mem_of_getElem? (i := 345) (by decide +kernel), List.mem_of_getElem? (i := 346) (by decide +kernel)⟩
theorem lw_p13 : lw_okq (⟨"NightRounds$Tale", "write", "(I)V"⟩, 5) := ⟨⟨by decide +kernel, by decide +kernel⟩, List.mem_of_getElem? (i := 85) (by decide +kernel), List.mem_of_getElem? (i := 370) (by decide +kernel), List.mem_of_getElem? (i := 371) (by decide +kernel)⟩
theorem lw_p14 : lw_okq (⟨"NightRounds$Porter", "doFirstPart", "(III)Z"⟩, 3) := ⟨⟨by decide +kernel, by decide +kernel⟩, List.mem_of_getElem? (i := 118) (by decide +kernel), List.mem_of_getElem? (i := 383) (by decide +kernel), List.mem_of_getElem? (i := 384) (by decide +kernel)⟩
theorem lw_p15 : lw_okq (⟨"NightRounds$Porter", "doOrElse", "(III)Z"⟩, 3) := ⟨⟨by decide +kernel, by decide +kernel⟩, List.mem_of_getElem? (i := 118) (by decide +kernel), List.mem_of_getElem? (i := 395) (by decide +kernel), List.mem_of_getElem? (i := 396) (by decide +kernel)⟩
def lw_privs_1 : List (MethodName × Nat) := [(⟨"NightRounds", "refuse", "(I)I"⟩, 10), (⟨"NightRounds$House", "setCell", "(III)V"⟩, 1), (⟨"NightRounds$Script", "readActs", "(I)V"⟩, 11), (⟨"NightRounds$Script", "nextSign", "()I"⟩, 11), (⟨"NightRounds$Script", "readAct", "(I)V"⟩, 11), (⟨"NightRounds$Script", "readRest", "(III)V"⟩, 11), (⟨"NightRounds$Script", "readFigure", "()I"⟩, 11), (⟨"NightRounds$Script", "readParts", "(IIII)V"⟩, 11), (⟨"NightRounds$Script", "expect", "(I)V"⟩, 11), (⟨"NightRounds$Porter", "doActs", "(IIII)Z"⟩, 3), (⟨"NightRounds$Porter", "doAct", "(III)Z"⟩, 3), (⟨"NightRounds$Porter", "befalls", "(II)Z"⟩, 3), (⟨"NightRounds$Porter", "goInto", "(III)Z"⟩, 3), (⟨"NightRounds$Tale", "write", "(I)V"⟩, 5), (⟨"NightRounds$Porter", "doFirstPart", "(III)Z"⟩, 3), (⟨"NightRounds$Porter", "doOrElse", "(III)Z"⟩, 3)]
theorem lw_r1 : ∀ q ∈ lw_privs_1, lw_okq q := List.forall_mem_cons.mpr ⟨lw_p0, List.forall_mem_cons.mpr ⟨lw_p1, List.forall_mem_cons.mpr ⟨lw_p2, List.forall_mem_cons.mpr ⟨lw_p3, List.forall_mem_cons.mpr ⟨lw_p4, List.forall_mem_cons.mpr ⟨lw_p5, List.forall_mem_cons.mpr ⟨lw_p6, List.forall_mem_cons.mpr ⟨lw_p7, List.forall_mem_cons.mpr ⟨lw_p8, List.forall_mem_cons.mpr ⟨lw_p9, List.forall_mem_cons.mpr ⟨lw_p10, List.forall_mem_cons.mpr ⟨lw_p11, List.forall_mem_cons.mpr ⟨lw_p12, List.forall_mem_cons.mpr ⟨lw_p13, List.forall_mem_cons.mpr ⟨lw_p14, List.forall_mem_cons.mpr ⟨lw_p15, fun _ h => absurd h List.not_mem_nil⟩⟩⟩⟩⟩⟩⟩⟩⟩⟩⟩⟩⟩⟩⟩⟩
theorem lw_p16 : lw_okq (⟨"NightRounds$Porter", "doSecondPart", "(III)Z"⟩, 3) := ⟨⟨by decide +kernel, by decide +kernel⟩, List.mem_of_getElem? (i := 118) (by decide +kernel), List.mem_of_getElem? (i := 405) (by decide +kernel), List.mem_of_getElem? (i := 406) (by decide +kernel)⟩
theorem lw_p17 : lw_okq (⟨"NightRounds$Porter", "doAndHear", "(III)Z"⟩, 3) := ⟨⟨by decide +kernel, by decide +kernel⟩, List.mem_of_getElem? (i := 118) (by decide +kernel), List.mem_of_getElem? (i := 414) (by decide +kernel), List.mem_of_getElem? (i := 415) (by decide +kernel)⟩
theorem lw_p18 : lw_okq (⟨"NightRounds$Porter", "doAndReport", "(III)Z"⟩, 3) := ⟨⟨by decide +kernel, by decide +kernel⟩, List.mem_of_getElem? (i := 118) (by decide +kernel), List.mem_of_getElem? (i := 422) (by decide +kernel), List.mem_of_getElem? (i := 423) (by decide +kernel)⟩
theorem lw_p19 : lw_okq (⟨"NightRounds$Porter", "doSoOften", "(III)Z"⟩, 3) := ⟨⟨by decide +kernel, by decide +kernel⟩, List.mem_of_getElem? (i := 118) (by decide +kernel), List.mem_of_getElem? (i := 431) (by decide +kernel), List.mem_of_getElem? (i := 432) (by decide +kernel)⟩
theorem lw_p20 : lw_okq (⟨"NightRounds$Porter", "doInRoom", "(II)Z"⟩, 3) := ⟨⟨by decide +kernel, by decide +kernel⟩, List.mem_of_getElem? (i := 118) (by decide +kernel), List.mem_of_getElem? (i := 439) (by decide +kernel), List.mem_of_getElem? (i := 440) (by decide +kernel)⟩
theorem lw_p21 : lw_okq (⟨"NightRounds", "endWithKeys", "(I)I"⟩, 10) := ⟨⟨by decide +kernel, by decide +kernel⟩, List.mem_of_getElem? (i := 12) (by decide +kernel), List.mem_of_getElem? (i := 511) (by decide +kernel), List.mem_of_getElem? (i := 512) (by decide +kernel)⟩
theorem lw_p22 : lw_okq (⟨"NightRounds", "endWith", "(III)I"⟩, 10) := ⟨⟨by decide +kernel, by decide +kernel⟩, List.mem_of_getElem? (i := 12) (by decide +kernel), List.mem_of_getElem? (i := 519) (by decide +kernel), List.mem_of_getElem? (i := 520) (by decide +kernel)⟩
theorem lw_p23 : lw_okq (⟨"NightRoundsModel", "bad", "(I)I"⟩, 36) := ⟨⟨by decide +kernel, by decide +kernel⟩, List.mem_of_getElem? (i := 593) (by decide +kernel), List.mem_of_getElem? (i := 721) (by decide +kernel), List.mem_of_getElem? (i := 722) (by decide +kernel)⟩
theorem lw_p24 : lw_okq (⟨"NightRoundsModel", "night", "()V"⟩, 36) := ⟨⟨by decide +kernel, by decide +kernel⟩, List.mem_of_getElem? (i := 593) (by decide +kernel), List.mem_of_getElem? (i := 725) (by decide +kernel), List.mem_of_getElem? (i := 726) (by decide +kernel)⟩
theorem lw_p25 : lw_okq (⟨"NightRoundsModel", "at", "(II)I"⟩, 36) := ⟨⟨by decide +kernel, by decide +kernel⟩, List.mem_of_getElem? (i := 593) (by decide +kernel), List.mem_of_getElem? (i := 729) (by decide +kernel), List.mem_of_getElem? (i := 730) (by decide +kernel)⟩
theorem lw_p26 : lw_okq (⟨"NightRoundsModel", "put", "(III)V"⟩, 36) := ⟨⟨by decide +kernel, by decide +kernel⟩, List.mem_of_getElem? (i := 593) (by decide +kernel), List.mem_of_getElem? (i := 733) (by decide +kernel), List.mem_of_getElem? (i := 734) (by decide +kernel)⟩
theorem lw_p27 : lw_okq (⟨"NightRoundsModel", "toldOf", "(II)I"⟩, 36) := ⟨⟨by decide +kernel, by decide +kernel⟩, List.mem_of_getElem? (i := 593) (by decide +kernel), List.mem_of_getElem? (i := 741) (by decide +kernel), List.mem_of_getElem? (i := 742) (by decide +kernel)⟩
theorem lw_p28 : lw_okq (⟨"NightRoundsModel", "loud", "(I)I"⟩, 36) := ⟨⟨by decide +kernel, by decide +kernel⟩, List.mem_of_getElem? (i := 593) (by decide +kernel), List.mem_of_getElem? (i := 745) (by decide +kernel), List.mem_of_getElem? (i := 746) (by decide +kernel)⟩
theorem lw_p29 : lw_okq (⟨"NightRoundsModel", "awake", "()I"⟩, 36) := ⟨⟨by decide +kernel, by decide +kernel⟩, List.mem_of_getElem? (i := 593) (by decide +kernel), List.mem_of_getElem? (i := 761) (by decide +kernel), List.mem_of_getElem? (i := 762) (by decide +kernel)⟩
theorem lw_p30 : lw_okq (⟨"NightRoundsModel", "full", "()I"⟩, 36) := ⟨⟨by decide +kernel, by decide +kernel⟩, List.mem_of_getElem? (i := 593) (by decide +kernel), List.mem_of_getElem? (i := 770) (by decide +kernel), List.mem_of_getElem? (i := 771) (by decide +kernel)⟩
theorem lw_p31 : lw_okq (⟨"NightRoundsModel", "reads", "()I"⟩, 36) := ⟨⟨by decide +kernel, by decide +kernel⟩, List.mem_of_getElem? (i := 593) (by decide +kernel), List.mem_of_getElem? (i := 782) (by decide +kernel), List.mem_of_getElem? (i := 783) (by decide +kernel)⟩
def lw_privs_2 : List (MethodName × Nat) := [(⟨"NightRounds$Porter", "doSecondPart", "(III)Z"⟩, 3), (⟨"NightRounds$Porter", "doAndHear", "(III)Z"⟩, 3), (⟨"NightRounds$Porter", "doAndReport", "(III)Z"⟩, 3), (⟨"NightRounds$Porter", "doSoOften", "(III)Z"⟩, 3), (⟨"NightRounds$Porter", "doInRoom", "(II)Z"⟩, 3), (⟨"NightRounds", "endWithKeys", "(I)I"⟩, 10), (⟨"NightRounds", "endWith", "(III)I"⟩, 10), (⟨"NightRoundsModel", "bad", "(I)I"⟩, 36), (⟨"NightRoundsModel", "night", "()V"⟩, 36), (⟨"NightRoundsModel", "at", "(II)I"⟩, 36), (⟨"NightRoundsModel", "put", "(III)V"⟩, 36), (⟨"NightRoundsModel", "toldOf", "(II)I"⟩, 36), (⟨"NightRoundsModel", "loud", "(I)I"⟩, 36), (⟨"NightRoundsModel", "awake", "()I"⟩, 36), (⟨"NightRoundsModel", "full", "()I"⟩, 36), (⟨"NightRoundsModel", "reads", "()I"⟩, 36)]
theorem lw_r2 : ∀ q ∈ lw_privs_2, lw_okq q := List.forall_mem_cons.mpr ⟨lw_p16, List.forall_mem_cons.mpr ⟨lw_p17, List.forall_mem_cons.mpr ⟨lw_p18, List.forall_mem_cons.mpr ⟨lw_p19, List.forall_mem_cons.mpr ⟨lw_p20, List.forall_mem_cons.mpr ⟨lw_p21, List.forall_mem_cons.mpr ⟨lw_p22, List.forall_mem_cons.mpr ⟨lw_p23, List.forall_mem_cons.mpr ⟨lw_p24, List.forall_mem_cons.mpr ⟨lw_p25, List.forall_mem_cons.mpr ⟨lw_p26, List.forall_mem_cons.mpr ⟨lw_p27, List.forall_mem_cons.mpr ⟨lw_p28, List.forall_mem_cons.mpr ⟨lw_p29, List.forall_mem_cons.mpr ⟨lw_p30, List.forall_mem_cons.mpr ⟨lw_p31, fun _ h => absurd h List.not_mem_nil⟩⟩⟩⟩⟩⟩⟩⟩⟩⟩⟩⟩⟩⟩⟩⟩
theorem lw_p32 : lw_okq (⟨"NightRoundsModel", "skip", "()V"⟩, 36) := ⟨⟨by decide +kernel, by decide +kernel⟩, List.mem_of_getElem? (i := 593) (by decide +kernel), List.mem_of_getElem? (i := 786) (by decide +kernel), List.mem_of_getElem? (i := 787) (by decide +kernel)⟩
theorem lw_p33 : lw_okq (⟨"NightRoundsModel", "meets", "(II)Z"⟩, 36) := ⟨⟨by decide +kernel, by decide +kernel⟩, List.mem_of_getElem? (i := 593) (by decide +kernel), List.mem_of_getElem? (i := 795) (by decide +kernel), List.mem_of_getElem? (i := 796) (by decide +kernel)⟩
theorem lw_p34 : lw_okq (⟨"NightRoundsModel", "round", "()I"⟩, 36) := ⟨⟨by decide +kernel, by decide +kernel⟩, List.mem_of_getElem? (i := 593) (by decide +kernel), List.mem_of_getElem? (i := 802) (by decide +kernel), List.mem_of_getElem? (i := 803) (by decide +kernel)⟩
theorem lw_p35 : lw_okq (⟨"NightRoundsModel", "goesDown", "()V"⟩, 36) := ⟨⟨by decide +kernel, by decide +kernel⟩, List.mem_of_getElem? (i := 593) (by decide +kernel), List.mem_of_getElem? (i := 806) (by decide +kernel), List.mem_of_getElem? (i := 807) (by decide +kernel)⟩
theorem lw_p36 : lw_okq (⟨"NightRoundsModel", "pops", "()V"⟩, 36) := ⟨⟨by decide +kernel, by decide +kernel⟩, List.mem_of_getElem? (i := 593) (by decide +kernel), List.mem_of_getElem? (i := 810) (by decide +kernel), List.mem_of_getElem? (i := 811) (by decide +kernel)⟩
theorem lw_p37 : lw_okq (⟨"NightRoundsModel", "shuts", "(I)V"⟩, 36) := ⟨⟨by decide +kernel, by decide +kernel⟩, List.mem_of_getElem? (i := 593) (by decide +kernel), List.mem_of_getElem? (i := 814) (by decide +kernel), List.mem_of_getElem? (i := 815) (by decide +kernel)⟩
theorem lw_p38 : lw_okq (⟨"NightRoundsModel", "notes", "(I)V"⟩, 36) := ⟨⟨by decide +kernel, by decide +kernel⟩, List.mem_of_getElem? (i := 593) (by decide +kernel), List.mem_of_getElem? (i := 818) (by decide +kernel), List.mem_of_getElem? (i := 819) (by decide +kernel)⟩
theorem lw_p39 : lw_okq (⟨"NightRoundsModel", "isAsleep", "(I)Z"⟩, 36) := ⟨⟨by decide +kernel, by decide +kernel⟩, List.mem_of_getElem? (i := 593) (by decide +kernel), List.mem_of_getElem? (i := 822) (by decide +kernel), List.mem_of_getElem? (i := 823) (by decide +kernel)⟩
theorem lw_p40 : lw_okq (⟨"NightRoundsModel", "endsAt", "(I)V"⟩, 36) := ⟨⟨by decide +kernel, by decide +kernel⟩, List.mem_of_getElem? (i := 593) (by decide +kernel), List.mem_of_getElem? (i := 826) (by decide +kernel), List.mem_of_getElem? (i := 827) (by decide +kernel)⟩
theorem lw_p41 : lw_okq (⟨"NightRoundsModel", "behindByte", "(I)V"⟩, 36) := ⟨⟨by decide +kernel, by decide +kernel⟩, List.mem_of_getElem? (i := 593) (by decide +kernel), List.mem_of_getElem? (i := 830) (by decide +kernel), List.mem_of_getElem? (i := 831) (by decide +kernel)⟩
theorem lw_p42 : lw_okq (⟨"NightRoundsModel", "begins", "(I)V"⟩, 36) := ⟨⟨by decide +kernel, by decide +kernel⟩, List.mem_of_getElem? (i := 593) (by decide +kernel), List.mem_of_getElem? (i := 834) (by decide +kernel), List.mem_of_getElem? (i := 835) (by decide +kernel)⟩
theorem lw_p43 : lw_okq (⟨"NightRoundsModel", "befalls", "(II)V"⟩, 36) := ⟨⟨by decide +kernel, by decide +kernel⟩, List.mem_of_getElem? (i := 593) (by decide +kernel), List.mem_of_getElem? (i := 838) (by decide +kernel), List.mem_of_getElem? (i := 839) (by decide +kernel)⟩
theorem lw_p44 : lw_okq (⟨"NightRoundsModel", "goesIn", "(I)V"⟩, 36) := ⟨⟨by decide +kernel, by decide +kernel⟩, List.mem_of_getElem? (i := 593) (by decide +kernel), List.mem_of_getElem? (i := 842) (by decide +kernel), List.mem_of_getElem? (i := 843) (by decide +kernel)⟩
theorem lw_p45 : lw_okq (⟨"NightRoundsModel", "pushes", "(III)V"⟩, 36) := ⟨⟨by decide +kernel, by decide +kernel⟩, List.mem_of_getElem? (i := 593) (by decide +kernel), List.mem_of_getElem? (i := 846) (by decide +kernel), List.mem_of_getElem? (i := 847) (by decide +kernel)⟩
theorem lw_p46 : lw_okq (⟨"NightRoundsModel", "figureFrom", "(I)I"⟩, 36) := ⟨⟨by decide +kernel, by decide +kernel⟩, List.mem_of_getElem? (i := 593) (by decide +kernel), List.mem_of_getElem? (i := 850) (by decide +kernel), List.mem_of_getElem? (i := 851) (by decide +kernel)⟩
theorem lw_p47 : lw_okq (⟨"NightRoundsModel", "takesKey", "()V"⟩, 36) := ⟨⟨by decide +kernel, by decide +kernel⟩, List.mem_of_getElem? (i := 593) (by decide +kernel), List.mem_of_getElem? (i := 854) (by decide +kernel), List.mem_of_getElem? (i := 855) (by decide +kernel)⟩
def lw_privs_3 : List (MethodName × Nat) := [(⟨"NightRoundsModel", "skip", "()V"⟩, 36), (⟨"NightRoundsModel", "meets", "(II)Z"⟩, 36), (⟨"NightRoundsModel", "round", "()I"⟩, 36), (⟨"NightRoundsModel", "goesDown", "()V"⟩, 36), (⟨"NightRoundsModel", "pops", "()V"⟩, 36), (⟨"NightRoundsModel", "shuts", "(I)V"⟩, 36), (⟨"NightRoundsModel", "notes", "(I)V"⟩, 36), (⟨"NightRoundsModel", "isAsleep", "(I)Z"⟩, 36), (⟨"NightRoundsModel", "endsAt", "(I)V"⟩, 36), (⟨"NightRoundsModel", "behindByte", "(I)V"⟩, 36), (⟨"NightRoundsModel", "begins", "(I)V"⟩, 36), (⟨"NightRoundsModel", "befalls", "(II)V"⟩, 36), (⟨"NightRoundsModel", "goesIn", "(I)V"⟩, 36), (⟨"NightRoundsModel", "pushes", "(III)V"⟩, 36), (⟨"NightRoundsModel", "figureFrom", "(I)I"⟩, 36), (⟨"NightRoundsModel", "takesKey", "()V"⟩, 36)]
theorem lw_r3 : ∀ q ∈ lw_privs_3, lw_okq q := List.forall_mem_cons.mpr ⟨lw_p32, List.forall_mem_cons.mpr ⟨lw_p33, List.forall_mem_cons.mpr ⟨lw_p34, List.forall_mem_cons.mpr ⟨lw_p35, List.forall_mem_cons.mpr ⟨lw_p36, List.forall_mem_cons.mpr ⟨lw_p37, List.forall_mem_cons.mpr ⟨lw_p38, List.forall_mem_cons.mpr ⟨lw_p39, List.forall_mem_cons.mpr ⟨lw_p40, List.forall_mem_cons.mpr ⟨lw_p41, List.forall_mem_cons.mpr ⟨lw_p42, List.forall_mem_cons.mpr ⟨lw_p43, List.forall_mem_cons.mpr ⟨lw_p44, List.forall_mem_cons.mpr ⟨lw_p45, List.forall_mem_cons.mpr ⟨lw_p46, List.forall_mem_cons.mpr ⟨lw_p47, fun _ h => absurd h List.not_mem_nil⟩⟩⟩⟩⟩⟩⟩⟩⟩⟩⟩⟩⟩⟩⟩⟩
theorem lw_p48 : lw_okq (⟨"NightRoundsModel", "wakes", "()V"⟩, 36) := ⟨⟨by decide +kernel, by decide +kernel⟩, List.mem_of_getElem? (i := 593) (by decide +kernel), List.mem_of_getElem? (i := 858) (by decide +kernel), List.mem_of_getElem? (i := 859) (by decide +kernel)⟩
theorem lw_p49 : lw_okq (⟨"NightRoundsModel", "looksIn", "()V"⟩, 36) := ⟨⟨by decide +kernel, by decide +kernel⟩, List.mem_of_getElem? (i := 593) (by decide +kernel), List.mem_of_getElem? (i := 862) (by decide +kernel), List.mem_of_getElem? (i := 863) (by decide +kernel)⟩
theorem lw_p50 : lw_okq (⟨"NightRoundsModel", "keepsWas", "(I)V"⟩, 36) := ⟨⟨by decide +kernel, by decide +kernel⟩, List.mem_of_getElem? (i := 593) (by decide +kernel), List.mem_of_getElem? (i := 866) (by decide +kernel), List.mem_of_getElem? (i := 867) (by decide +kernel)⟩
theorem lw_p51 : lw_okq (⟨"NightRoundsModel", "keep", "()V"⟩, 36) := ⟨⟨by decide +kernel, by decide +kernel⟩, List.mem_of_getElem? (i := 593) (by decide +kernel), List.mem_of_getElem? (i := 874) (by decide +kernel), List.mem_of_getElem? (i := 875) (by decide +kernel)⟩
theorem lw_p52 : lw_okq (⟨"NightRoundsModel", "bring", "()V"⟩, 36) := ⟨⟨by decide +kernel, by decide +kernel⟩, List.mem_of_getElem? (i := 593) (by decide +kernel), List.mem_of_getElem? (i := 878) (by decide +kernel), List.mem_of_getElem? (i := 879) (by decide +kernel)⟩
theorem lw_p53 : lw_okq (⟨"NightRoundsModel", "toldWas", "(I)I"⟩, 36) := ⟨⟨by decide +kernel, by decide +kernel⟩, List.mem_of_getElem? (i := 593) (by decide +kernel), List.mem_of_getElem? (i := 890) (by decide +kernel), List.mem_of_getElem? (i := 891) (by decide +kernel)⟩
theorem lw_p54 : lw_okq (⟨"NightRoundsModel", "endBy", "(I)I"⟩, 36) := ⟨⟨by decide +kernel, by decide +kernel⟩, List.mem_of_getElem? (i := 593) (by decide +kernel), List.mem_of_getElem? (i := 913) (by decide +kernel), List.mem_of_getElem? (i := 914) (by decide +kernel)⟩
theorem lw_p55 : lw_okq (⟨"NightRoundsModel", "no", "()I"⟩, 36) := ⟨⟨by decide +kernel, by decide +kernel⟩, List.mem_of_getElem? (i := 593) (by decide +kernel), List.mem_of_getElem? (i := 958) (by decide +kernel), List.mem_of_getElem? (i := 959) (by decide +kernel)⟩
theorem lw_p56 : lw_okq (⟨"NightRoundsModel", "counted", "(I)I"⟩, 36) := ⟨⟨by decide +kernel, by decide +kernel⟩, List.mem_of_getElem? (i := 593) (by decide +kernel), List.mem_of_getElem? (i := 966) (by decide +kernel), List.mem_of_getElem? (i := 967) (by decide +kernel)⟩
theorem lw_p57 : lw_okq (⟨"NightRoundsModel", "lamps", "()I"⟩, 36) := ⟨⟨by decide +kernel, by decide +kernel⟩, List.mem_of_getElem? (i := 593) (by decide +kernel), List.mem_of_getElem? (i := 970) (by decide +kernel), List.mem_of_getElem? (i := 971) (by decide +kernel)⟩
def lw_privs_4 : List (MethodName × Nat) := [(⟨"NightRoundsModel", "wakes", "()V"⟩, 36), (⟨"NightRoundsModel", "looksIn", "()V"⟩, 36), (⟨"NightRoundsModel", "keepsWas", "(I)V"⟩, 36), (⟨"NightRoundsModel", "keep", "()V"⟩, 36), (⟨"NightRoundsModel", "bring", "()V"⟩, 36), (⟨"NightRoundsModel", "toldWas", "(I)I"⟩, 36), (⟨"NightRoundsModel", "endBy", "(I)I"⟩, 36), (⟨"NightRoundsModel", "no", "()I"⟩, 36), (⟨"NightRoundsModel", "counted", "(I)I"⟩, 36), (⟨"NightRoundsModel", "lamps", "()I"⟩, 36)]
theorem lw_r4 : ∀ q ∈ lw_privs_4, lw_okq q := List.forall_mem_cons.mpr ⟨lw_p48, List.forall_mem_cons.mpr ⟨lw_p49, List.forall_mem_cons.mpr ⟨lw_p50, List.forall_mem_cons.mpr ⟨lw_p51, List.forall_mem_cons.mpr ⟨lw_p52, List.forall_mem_cons.mpr ⟨lw_p53, List.forall_mem_cons.mpr ⟨lw_p54, List.forall_mem_cons.mpr ⟨lw_p55, List.forall_mem_cons.mpr ⟨lw_p56, List.forall_mem_cons.mpr ⟨lw_p57, fun _ h => absurd h List.not_mem_nil⟩⟩⟩⟩⟩⟩⟩⟩⟩⟩
def lw_privs : List (MethodName × Nat) := lw_privs_1 ++ (lw_privs_2 ++ (lw_privs_3 ++ (lw_privs_4)))
def lw_tbl : List Cond := k2_sels lw_privs ++ tables_1
theorem lw_privs_ok : ∀ q ∈ lw_privs, lw_okq q := by
  show ∀ q ∈ lw_privs_1 ++ (lw_privs_2 ++ (lw_privs_3 ++ (lw_privs_4))), lw_okq q
  exact List.forall_mem_append.mpr ⟨lw_r1, List.forall_mem_append.mpr ⟨lw_r2, List.forall_mem_append.mpr ⟨lw_r3, lw_r4⟩⟩⟩
end
section
def RX0 : String := "NightRounds$House"
def TX0 : u_T := fun k => match k with
  | _ => ("NightRounds$House", "cells", "[I", true)
def tyX0 : Nat → FieldType := fun k => match k with
  | _ => .array .int
theorem nmX0 : ∀ a, a < 1 → ∀ b, b < 1 → a ≠ b → (TX0 a).2.1 ≠ (TX0 b).2.1 := by decide +kernel
theorem tyX0_ok : ∀ k, k < 1 → parseFieldDescriptor (TX0 k).2.2.1 = some (tyX0 k) := by decide +kernel
abbrev cX0_init : ByteArray := prog_2_method_1_code
def yX0_init : MethodName := ⟨RX0, "<init>", "()V"⟩
abbrev cX0_cell : ByteArray := prog_2_method_2_code
def yX0_cell : MethodName := ⟨RX0, "cell", "(II)I"⟩
abbrev cX0_setCell : ByteArray := prog_2_method_3_code
def yX0_setCell : MethodName := ⟨RX0, "setCell", "(III)V"⟩
abbrev cX0_change : ByteArray := prog_2_method_4_code
def yX0_change : MethodName := ⟨RX0, "change", "(III)V"⟩
abbrev cX0_keyring : ByteArray := prog_2_method_5_code
def yX0_keyring : MethodName := ⟨RX0, "keyring", "()I"⟩
abbrev cX0_giveKeys : ByteArray := prog_2_method_6_code
def yX0_giveKeys : MethodName := ⟨RX0, "giveKeys", "(I)V"⟩
abbrev cX0_sum : ByteArray := prog_2_method_7_code
def yX0_sum : MethodName := ⟨RX0, "sum", "()I"⟩
abbrev cX0_addToSum : ByteArray := prog_2_method_8_code
def yX0_addToSum : MethodName := ⟨RX0, "addToSum", "(I)V"⟩
abbrev cX0_loudness : ByteArray := prog_2_method_9_code
def yX0_loudness : MethodName := ⟨RX0, "loudness", "(I)I"⟩
abbrev cX0_swollen : ByteArray := prog_2_method_10_code
def yX0_swollen : MethodName := ⟨RX0, "swollen", "(I)I"⟩
abbrev cX0_admits : ByteArray := prog_2_method_11_code
def yX0_admits : MethodName := ⟨RX0, "admits", "(I)Z"⟩
abbrev cX0_sleepNow : ByteArray := prog_2_method_12_code
def yX0_sleepNow : MethodName := ⟨RX0, "sleepNow", "(I)I"⟩
abbrev cX0_wakes : ByteArray := prog_2_method_13_code
def yX0_wakes : MethodName := ⟨RX0, "wakes", "(II)Z"⟩
abbrev cX0_openDoor : ByteArray := prog_2_method_14_code
def yX0_openDoor : MethodName := ⟨RX0, "openDoor", "(I)V"⟩
abbrev cX0_turnLamp : ByteArray := prog_2_method_15_code
def yX0_turnLamp : MethodName := ⟨RX0, "turnLamp", "(I)V"⟩
abbrev cX0_takeKey : ByteArray := prog_2_method_16_code
def yX0_takeKey : MethodName := ⟨RX0, "takeKey", "(I)V"⟩
abbrev cX0_roomsWith : ByteArray := prog_2_method_17_code
def yX0_roomsWith : MethodName := ⟨RX0, "roomsWith", "(I)I"⟩
abbrev cX0_settle : ByteArray := prog_2_method_18_code
def yX0_settle : MethodName := ⟨RX0, "settle", "()V"⟩
abbrev cX0_become : ByteArray := prog_2_method_19_code
def yX0_become : MethodName := ⟨RX0, "become", "(LNightRounds$House;)V"⟩
abbrev cX0_drawFrom : ByteArray := prog_2_method_20_code
def yX0_drawFrom : MethodName := ⟨RX0, "drawFrom", "(I)V"⟩
abbrev cX0_upToThree : ByteArray := prog_2_method_21_code
def yX0_upToThree : MethodName := ⟨RX0, "upToThree", "(I)I"⟩
def RX1 : String := "NightRounds$Nights"
def TX1 : u_T := fun k => match k with
  | 0 => ("NightRounds$Nights", "rows", "[I", true)
  | _ => ("NightRounds$Nights", "held", "I", false)
def tyX1 : Nat → FieldType := fun k => match k with
  | 0 => .array .int
  | _ => .int
theorem nmX1 : ∀ a, a < 2 → ∀ b, b < 2 → a ≠ b → (TX1 a).2.1 ≠ (TX1 b).2.1 := by decide +kernel
theorem tyX1_ok : ∀ k, k < 2 → parseFieldDescriptor (TX1 k).2.2.1 = some (tyX1 k) := by decide +kernel
abbrev cX1_init : ByteArray := prog_3_method_1_code
def yX1_init : MethodName := ⟨RX1, "<init>", "()V"⟩
abbrev cX1_held : ByteArray := prog_3_method_2_code
def yX1_held : MethodName := ⟨RX1, "held", "()I"⟩
abbrev cX1_keep : ByteArray := prog_3_method_3_code
def yX1_keep : MethodName := ⟨RX1, "keep", "(LNightRounds$House;)V"⟩
abbrev cX1_giveBack : ByteArray := prog_3_method_4_code
def yX1_giveBack : MethodName := ⟨RX1, "giveBack", "(LNightRounds$House;)V"⟩
def RX2 : String := "NightRounds$Porter"
def TX2 : u_T := fun k => match k with
  | 0 => ("NightRounds$Porter", "script", "LNightRounds$Script;", true)
  | 1 => ("NightRounds$Porter", "house", "LNightRounds$House;", false)
  | _ => ("NightRounds$Porter", "tale", "LNightRounds$Tale;", false)
def tyX2 : Nat → FieldType := fun k => match k with
  | 0 => .object "NightRounds$Script"
  | 1 => .object "NightRounds$House"
  | _ => .object "NightRounds$Tale"
theorem nmX2 : ∀ a, a < 3 → ∀ b, b < 3 → a ≠ b → (TX2 a).2.1 ≠ (TX2 b).2.1 := by decide +kernel
theorem tyX2_ok : ∀ k, k < 3 → parseFieldDescriptor (TX2 k).2.2.1 = some (tyX2 k) := by decide +kernel
abbrev cX2_init : ByteArray := prog_4_method_1_code
def yX2_init : MethodName := ⟨RX2, "<init>", "(LNightRounds$Script;LNightRounds$House;LNightRounds$Tale;)V"⟩
abbrev cX2_walk : ByteArray := prog_4_method_2_code
def yX2_walk : MethodName := ⟨RX2, "walk", "(LNightRounds$House;LNightRounds$Tale;)I"⟩
abbrev cX2_doActs : ByteArray := prog_4_method_3_code
def yX2_doActs : MethodName := ⟨RX2, "doActs", "(IIII)Z"⟩
abbrev cX2_doAct : ByteArray := prog_4_method_4_code
def yX2_doAct : MethodName := ⟨RX2, "doAct", "(III)Z"⟩
abbrev cX2_befalls : ByteArray := prog_4_method_5_code
def yX2_befalls : MethodName := ⟨RX2, "befalls", "(II)Z"⟩
abbrev cX2_doFirstPart : ByteArray := prog_4_method_6_code
def yX2_doFirstPart : MethodName := ⟨RX2, "doFirstPart", "(III)Z"⟩
abbrev cX2_doSecondPart : ByteArray := prog_4_method_7_code
def yX2_doSecondPart : MethodName := ⟨RX2, "doSecondPart", "(III)Z"⟩
abbrev cX2_goInto : ByteArray := prog_4_method_8_code
def yX2_goInto : MethodName := ⟨RX2, "goInto", "(III)Z"⟩
abbrev cX2_doOrElse : ByteArray := prog_4_method_9_code
def yX2_doOrElse : MethodName := ⟨RX2, "doOrElse", "(III)Z"⟩
abbrev cX2_doAndHear : ByteArray := prog_4_method_10_code
def yX2_doAndHear : MethodName := ⟨RX2, "doAndHear", "(III)Z"⟩
abbrev cX2_doAndReport : ByteArray := prog_4_method_11_code
def yX2_doAndReport : MethodName := ⟨RX2, "doAndReport", "(III)Z"⟩
abbrev cX2_doSoOften : ByteArray := prog_4_method_12_code
def yX2_doSoOften : MethodName := ⟨RX2, "doSoOften", "(III)Z"⟩
abbrev cX2_doInRoom : ByteArray := prog_4_method_13_code
def yX2_doInRoom : MethodName := ⟨RX2, "doInRoom", "(II)Z"⟩
def RX3 : String := "NightRounds$Script"
def TX3 : u_T := fun k => match k with
  | 0 => ("NightRounds$Script", "text", "[I", true)
  | 1 => ("NightRounds$Script", "signs", "[I", true)
  | 2 => ("NightRounds$Script", "figures", "[I", true)
  | 3 => ("NightRounds$Script", "middles", "[I", true)
  | 4 => ("NightRounds$Script", "nexts", "[I", true)
  | 5 => ("NightRounds$Script", "length", "I", false)
  | 6 => ("NightRounds$Script", "acts", "I", false)
  | 7 => ("NightRounds$Script", "deepest", "I", false)
  | 8 => ("NightRounds$Script", "roomBits", "I", false)
  | 9 => ("NightRounds$Script", "place", "I", false)
  | _ => ("NightRounds$Script", "fault", "I", false)
def tyX3 : Nat → FieldType := fun k => match k with
  | 0 => .array .int
  | 1 => .array .int
  | 2 => .array .int
  | 3 => .array .int
  | 4 => .array .int
  | 5 => .int
  | 6 => .int
  | 7 => .int
  | 8 => .int
  | 9 => .int
  | _ => .int
theorem nmX3 : ∀ a, a < 11 → ∀ b, b < 11 → a ≠ b → (TX3 a).2.1 ≠ (TX3 b).2.1 := by decide +kernel
theorem tyX3_ok : ∀ k, k < 11 → parseFieldDescriptor (TX3 k).2.2.1 = some (tyX3 k) := by decide +kernel
abbrev cX3_init : ByteArray := prog_5_method_1_code
def yX3_init : MethodName := ⟨RX3, "<init>", "()V"⟩
abbrev cX3_length : ByteArray := prog_5_method_2_code
def yX3_length : MethodName := ⟨RX3, "length", "()I"⟩
abbrev cX3_append : ByteArray := prog_5_method_3_code
def yX3_append : MethodName := ⟨RX3, "append", "(I)V"⟩
abbrev cX3_empty : ByteArray := prog_5_method_4_code
def yX3_empty : MethodName := ⟨RX3, "empty", "()V"⟩
abbrev cX3_acts : ByteArray := prog_5_method_5_code
def yX3_acts : MethodName := ⟨RX3, "acts", "()I"⟩
abbrev cX3_deepest : ByteArray := prog_5_method_6_code
def yX3_deepest : MethodName := ⟨RX3, "deepest", "()I"⟩
abbrev cX3_roomBits : ByteArray := prog_5_method_7_code
def yX3_roomBits : MethodName := ⟨RX3, "roomBits", "()I"⟩
abbrev cX3_sign : ByteArray := prog_5_method_8_code
def yX3_sign : MethodName := ⟨RX3, "sign", "(I)I"⟩
abbrev cX3_figure : ByteArray := prog_5_method_9_code
def yX3_figure : MethodName := ⟨RX3, "figure", "(I)I"⟩
abbrev cX3_middle : ByteArray := prog_5_method_10_code
def yX3_middle : MethodName := ⟨RX3, "middle", "(I)I"⟩
abbrev cX3_next : ByteArray := prog_5_method_11_code
def yX3_next : MethodName := ⟨RX3, "next", "(I)I"⟩
abbrev cX3_read : ByteArray := prog_5_method_12_code
def yX3_read : MethodName := ⟨RX3, "read", "()I"⟩
abbrev cX3_nextSign : ByteArray := prog_5_method_13_code
def yX3_nextSign : MethodName := ⟨RX3, "nextSign", "()I"⟩
abbrev cX3_readActs : ByteArray := prog_5_method_14_code
def yX3_readActs : MethodName := ⟨RX3, "readActs", "(I)V"⟩
abbrev cX3_readAct : ByteArray := prog_5_method_15_code
def yX3_readAct : MethodName := ⟨RX3, "readAct", "(I)V"⟩
abbrev cX3_readRest : ByteArray := prog_5_method_16_code
def yX3_readRest : MethodName := ⟨RX3, "readRest", "(III)V"⟩
abbrev cX3_readParts : ByteArray := prog_5_method_17_code
def yX3_readParts : MethodName := ⟨RX3, "readParts", "(IIII)V"⟩
abbrev cX3_expect : ByteArray := prog_5_method_18_code
def yX3_expect : MethodName := ⟨RX3, "expect", "(I)V"⟩
abbrev cX3_readFigure : ByteArray := prog_5_method_19_code
def yX3_readFigure : MethodName := ⟨RX3, "readFigure", "()I"⟩
abbrev cX3_isRoomSign : ByteArray := prog_5_method_20_code
def yX3_isRoomSign : MethodName := ⟨RX3, "isRoomSign", "(I)Z"⟩
abbrev cX3_holdsActs : ByteArray := prog_5_method_21_code
def yX3_holdsActs : MethodName := ⟨RX3, "holdsActs", "(I)Z"⟩
abbrev cX3_beginsAct : ByteArray := prog_5_method_22_code
def yX3_beginsAct : MethodName := ⟨RX3, "beginsAct", "(I)Z"⟩
def RX4 : String := "NightRounds$Tale"
def TX4 : u_T := fun k => match k with
  | 0 => ("NightRounds$Tale", "facts", "[I", true)
  | 1 => ("NightRounds$Tale", "entries", "[I", true)
  | 2 => ("NightRounds$Tale", "written", "I", false)
  | 3 => ("NightRounds$Tale", "innermost", "I", false)
  | _ => ("NightRounds$Tale", "doorsOpen", "I", false)
def tyX4 : Nat → FieldType := fun k => match k with
  | 0 => .array .int
  | 1 => .array .int
  | 2 => .int
  | 3 => .int
  | _ => .int
theorem nmX4 : ∀ a, a < 5 → ∀ b, b < 5 → a ≠ b → (TX4 a).2.1 ≠ (TX4 b).2.1 := by decide +kernel
theorem tyX4_ok : ∀ k, k < 5 → parseFieldDescriptor (TX4 k).2.2.1 = some (tyX4 k) := by decide +kernel
abbrev cX4_init : ByteArray := prog_6_method_1_code
def yX4_init : MethodName := ⟨RX4, "<init>", "()V"⟩
abbrev cX4_begin : ByteArray := prog_6_method_2_code
def yX4_begin : MethodName := ⟨RX4, "begin", "()V"⟩
abbrev cX4_calm : ByteArray := prog_6_method_3_code
def yX4_calm : MethodName := ⟨RX4, "calm", "()V"⟩
abbrev cX4_befall : ByteArray := prog_6_method_4_code
def yX4_befall : MethodName := ⟨RX4, "befall", "(III)V"⟩
abbrev cX4_report : ByteArray := prog_6_method_5_code
def yX4_report : MethodName := ⟨RX4, "report", "()V"⟩
abbrev cX4_fact : ByteArray := prog_6_method_6_code
def yX4_fact : MethodName := ⟨RX4, "fact", "(I)I"⟩
abbrev cX4_innermost : ByteArray := prog_6_method_7_code
def yX4_innermost : MethodName := ⟨RX4, "innermost", "()I"⟩
abbrev cX4_tick : ByteArray := prog_6_method_8_code
def yX4_tick : MethodName := ⟨RX4, "tick", "()Z"⟩
abbrev cX4_doorOpened : ByteArray := prog_6_method_9_code
def yX4_doorOpened : MethodName := ⟨RX4, "doorOpened", "(I)V"⟩
abbrev cX4_doorShut : ByteArray := prog_6_method_10_code
def yX4_doorShut : MethodName := ⟨RX4, "doorShut", "(I)V"⟩
abbrev cX4_doorsOpen : ByteArray := prog_6_method_11_code
def yX4_doorsOpen : MethodName := ⟨RX4, "doorsOpen", "()I"⟩
abbrev cX4_write : ByteArray := prog_6_method_12_code
def yX4_write : MethodName := ⟨RX4, "write", "(I)V"⟩
abbrev cX4_written : ByteArray := prog_6_method_13_code
def yX4_written : MethodName := ⟨RX4, "written", "()I"⟩
abbrev cX4_entry : ByteArray := prog_6_method_14_code
def yX4_entry : MethodName := ⟨RX4, "entry", "(I)I"⟩
abbrev cX4_close : ByteArray := prog_6_method_15_code
def yX4_close : MethodName := ⟨RX4, "close", "(I)V"⟩
def RX5 : String := "NightRounds"
def TX5 : u_T := fun k => match k with
  | 0 => ("NightRounds", "house", "LNightRounds$House;", true)
  | 1 => ("NightRounds", "supposed", "LNightRounds$House;", true)
  | 2 => ("NightRounds", "nights", "LNightRounds$Nights;", true)
  | 3 => ("NightRounds", "script", "LNightRounds$Script;", true)
  | 4 => ("NightRounds", "last", "LNightRounds$Tale;", true)
  | 5 => ("NightRounds", "unkept", "LNightRounds$Tale;", true)
  | 6 => ("NightRounds", "porter", "LNightRounds$Porter;", true)
  | 7 => ("NightRounds", "bads", "I", false)
  | 8 => ("NightRounds", "noes", "I", false)
  | _ => ("NightRounds", "fulls", "I", false)
def tyX5 : Nat → FieldType := fun k => match k with
  | 0 => .object "NightRounds$House"
  | 1 => .object "NightRounds$House"
  | 2 => .object "NightRounds$Nights"
  | 3 => .object "NightRounds$Script"
  | 4 => .object "NightRounds$Tale"
  | 5 => .object "NightRounds$Tale"
  | 6 => .object "NightRounds$Porter"
  | 7 => .int
  | 8 => .int
  | _ => .int
theorem nmX5 : ∀ a, a < 10 → ∀ b, b < 10 → a ≠ b → (TX5 a).2.1 ≠ (TX5 b).2.1 := by decide +kernel
theorem tyX5_ok : ∀ k, k < 10 → parseFieldDescriptor (TX5 k).2.2.1 = some (tyX5 k) := by decide +kernel
abbrev cX5_init : ByteArray := prog_1_method_1_code
def yX5_init : MethodName := ⟨RX5, "<init>", "()V"⟩
abbrev cX5_sets : ByteArray := prog_1_method_2_code
def yX5_sets : MethodName := ⟨RX5, "sets", "(III)I"⟩
abbrev cX5_of : ByteArray := prog_1_method_3_code
def yX5_of : MethodName := ⟨RX5, "of", "(II)I"⟩
abbrev cX5_keys : ByteArray := prog_1_method_4_code
def yX5_keys : MethodName := ⟨RX5, "keys", "(I)I"⟩
abbrev cX5_dusk : ByteArray := prog_1_method_5_code
def yX5_dusk : MethodName := ⟨RX5, "dusk", "()I"⟩
abbrev cX5_type : ByteArray := prog_1_method_6_code
def yX5_type : MethodName := ⟨RX5, "type", "(I)I"⟩
abbrev cX5_clear : ByteArray := prog_1_method_7_code
def yX5_clear : MethodName := ⟨RX5, "clear", "()I"⟩
abbrev cX5_goes : ByteArray := prog_1_method_8_code
def yX5_goes : MethodName := ⟨RX5, "goes", "()I"⟩
abbrev cX5_tries : ByteArray := prog_1_method_9_code
def yX5_tries : MethodName := ⟨RX5, "tries", "()I"⟩
abbrev cX5_often : ByteArray := prog_1_method_10_code
def yX5_often : MethodName := ⟨RX5, "often", "(I)I"⟩
abbrev cX5_was : ByteArray := prog_1_method_11_code
def yX5_was : MethodName := ⟨RX5, "was", "(I)I"⟩
abbrev cX5_root : ByteArray := prog_1_method_12_code
def yX5_root : MethodName := ⟨RX5, "root", "()I"⟩
abbrev cX5_diary : ByteArray := prog_1_method_13_code
def yX5_diary : MethodName := ⟨RX5, "diary", "(I)I"⟩
abbrev cX5_open : ByteArray := prog_1_method_14_code
def yX5_open : MethodName := ⟨RX5, "open", "()I"⟩
abbrev cX5_fewest : ByteArray := prog_1_method_15_code
def yX5_fewest : MethodName := ⟨RX5, "fewest", "()I"⟩
abbrev cX5_were : ByteArray := prog_1_method_16_code
def yX5_were : MethodName := ⟨RX5, "were", "(II)I"⟩
abbrev cX5_cures : ByteArray := prog_1_method_17_code
def yX5_cures : MethodName := ⟨RX5, "cures", "(I)I"⟩
abbrev cX5_ends : ByteArray := prog_1_method_18_code
def yX5_ends : MethodName := ⟨RX5, "ends", "(I)I"⟩
abbrev cX5_told : ByteArray := prog_1_method_19_code
def yX5_told : MethodName := ⟨RX5, "told", "(I)I"⟩
abbrev cX5_draw : ByteArray := prog_1_method_20_code
def yX5_draw : MethodName := ⟨RX5, "draw", "(I)I"⟩
abbrev cX5_back : ByteArray := prog_1_method_21_code
def yX5_back : MethodName := ⟨RX5, "back", "()I"⟩
abbrev cX5_count : ByteArray := prog_1_method_22_code
def yX5_count : MethodName := ⟨RX5, "count", "(I)I"⟩
abbrev cX5_digest : ByteArray := prog_1_method_23_code
def yX5_digest : MethodName := ⟨RX5, "digest", "()J"⟩
abbrev cX5_refuse : ByteArray := prog_1_method_24_code
def yX5_refuse : MethodName := ⟨RX5, "refuse", "(I)I"⟩
abbrev cX5_endWithKeys : ByteArray := prog_1_method_25_code
def yX5_endWithKeys : MethodName := ⟨RX5, "endWithKeys", "(I)I"⟩
abbrev cX5_endWith : ByteArray := prog_1_method_26_code
def yX5_endWith : MethodName := ⟨RX5, "endWith", "(III)I"⟩
abbrev cX5_within : ByteArray := prog_1_method_27_code
def yX5_within : MethodName := ⟨RX5, "within", "(III)Z"⟩
abbrev cX5_isRoom : ByteArray := prog_1_method_28_code
def yX5_isRoom : MethodName := ⟨RX5, "isRoom", "(I)Z"⟩
abbrev cX5_at : ByteArray := prog_1_method_29_code
def yX5_at : MethodName := ⟨RX5, "at", "([II)I"⟩
abbrev cX5_put : ByteArray := prog_1_method_30_code
def yX5_put : MethodName := ⟨RX5, "put", "([III)V"⟩
def RX6 : String := "NightRoundsModel"
def TX6 : u_T := fun k => match k with
  | 0 => ("NightRoundsModel", "now", "[I", true)
  | 1 => ("NightRoundsModel", "past", "[I", true)
  | 2 => ("NightRoundsModel", "nights", "I", false)
  | 3 => ("NightRoundsModel", "refused", "[I", true)
  | 4 => ("NightRoundsModel", "text", "[I", true)
  | 5 => ("NightRoundsModel", "textLong", "I", false)
  | 6 => ("NightRoundsModel", "endOf", "[I", true)
  | 7 => ("NightRoundsModel", "slashOf", "[I", true)
  | 8 => ("NightRoundsModel", "acts", "I", false)
  | 9 => ("NightRoundsModel", "deepest", "I", false)
  | 10 => ("NightRoundsModel", "roomsIn", "I", false)
  | 11 => ("NightRoundsModel", "place", "I", false)
  | 12 => ("NightRoundsModel", "openAt", "[I", true)
  | 13 => ("NightRoundsModel", "diaryNow", "[I", true)
  | 14 => ("NightRoundsModel", "diaryLong", "I", false)
  | 15 => ("NightRoundsModel", "ticks", "I", false)
  | 16 => ("NightRoundsModel", "openMost", "I", false)
  | 17 => ("NightRoundsModel", "befell", "I", false)
  | 18 => ("NightRoundsModel", "event", "I", false)
  | 19 => ("NightRoundsModel", "eventRoom", "I", false)
  | 20 => ("NightRoundsModel", "eventNumber", "I", false)
  | 21 => ("NightRoundsModel", "eventBehind", "I", false)
  | 22 => ("NightRoundsModel", "eventRoot", "I", false)
  | 23 => ("NightRoundsModel", "pile", "[I", true)
  | 24 => ("NightRoundsModel", "roomAt", "[I", true)
  | 25 => ("NightRoundsModel", "left", "[I", true)
  | 26 => ("NightRoundsModel", "isSecond", "[Z", true)
  | 27 => ("NightRoundsModel", "pileLong", "I", false)
  | 28 => ("NightRoundsModel", "room", "I", false)
  | 29 => ("NightRoundsModel", "openNow", "I", false)
  | 30 => ("NightRoundsModel", "wasNow", "[I", true)
  | 31 => ("NightRoundsModel", "rootNow", "I", false)
  | 32 => ("NightRoundsModel", "diaryWas", "[I", true)
  | 33 => ("NightRoundsModel", "diaryWasLong", "I", false)
  | 34 => ("NightRoundsModel", "isWas", "Z", false)
  | _ => ("NightRoundsModel", "kept", "[I", true)
def tyX6 : Nat → FieldType := fun k => match k with
  | 0 => .array .int
  | 1 => .array .int
  | 2 => .int
  | 3 => .array .int
  | 4 => .array .int
  | 5 => .int
  | 6 => .array .int
  | 7 => .array .int
  | 8 => .int
  | 9 => .int
  | 10 => .int
  | 11 => .int
  | 12 => .array .int
  | 13 => .array .int
  | 14 => .int
  | 15 => .int
  | 16 => .int
  | 17 => .int
  | 18 => .int
  | 19 => .int
  | 20 => .int
  | 21 => .int
  | 22 => .int
  | 23 => .array .int
  | 24 => .array .int
  | 25 => .array .int
  | 26 => .array .boolean
  | 27 => .int
  | 28 => .int
  | 29 => .int
  | 30 => .array .int
  | 31 => .int
  | 32 => .array .int
  | 33 => .int
  | 34 => .boolean
  | _ => .array .int
theorem nmX6 : ∀ a, a < 36 → ∀ b, b < 36 → a ≠ b → (TX6 a).2.1 ≠ (TX6 b).2.1 := by decide +kernel
theorem tyX6_ok : ∀ k, k < 36 → parseFieldDescriptor (TX6 k).2.2.1 = some (tyX6 k) := by decide +kernel
abbrev cX6_init : ByteArray := prog_8_method_1_code
def yX6_init : MethodName := ⟨RX6, "<init>", "()V"⟩
abbrev cX6_in : ByteArray := prog_8_method_3_code
def yX6_in : MethodName := ⟨RX6, "in", "(JJJ)Z"⟩
abbrev cX6_bad : ByteArray := prog_8_method_4_code
def yX6_bad : MethodName := ⟨RX6, "bad", "(I)I"⟩
abbrev cX6_no : ByteArray := prog_8_method_5_code
def yX6_no : MethodName := ⟨RX6, "no", "()I"⟩
abbrev cX6_full : ByteArray := prog_8_method_6_code
def yX6_full : MethodName := ⟨RX6, "full", "()I"⟩
abbrev cX6_isRoom : ByteArray := prog_8_method_7_code
def yX6_isRoom : MethodName := ⟨RX6, "isRoom", "(I)Z"⟩
abbrev cX6_at : ByteArray := prog_8_method_8_code
def yX6_at : MethodName := ⟨RX6, "at", "(II)I"⟩
abbrev cX6_put : ByteArray := prog_8_method_9_code
def yX6_put : MethodName := ⟨RX6, "put", "(III)V"⟩
abbrev cX6_night : ByteArray := prog_8_method_10_code
def yX6_night : MethodName := ⟨RX6, "night", "()V"⟩
abbrev cX6_loudAs : ByteArray := prog_8_method_11_code
def yX6_loudAs : MethodName := ⟨RX6, "loudAs", "(II)I"⟩
abbrev cX6_loud : ByteArray := prog_8_method_12_code
def yX6_loud : MethodName := ⟨RX6, "loud", "(I)I"⟩
abbrev cX6_isAsleep : ByteArray := prog_8_method_13_code
def yX6_isAsleep : MethodName := ⟨RX6, "isAsleep", "(I)Z"⟩
abbrev cX6_sets : ByteArray := prog_8_method_14_code
def yX6_sets : MethodName := ⟨RX6, "sets", "(III)I"⟩
abbrev cX6_toldOf : ByteArray := prog_8_method_15_code
def yX6_toldOf : MethodName := ⟨RX6, "toldOf", "(II)I"⟩
abbrev cX6_of : ByteArray := prog_8_method_16_code
def yX6_of : MethodName := ⟨RX6, "of", "(II)I"⟩
abbrev cX6_keys : ByteArray := prog_8_method_17_code
def yX6_keys : MethodName := ⟨RX6, "keys", "(I)I"⟩
abbrev cX6_awake : ByteArray := prog_8_method_18_code
def yX6_awake : MethodName := ⟨RX6, "awake", "()I"⟩
abbrev cX6_dusk : ByteArray := prog_8_method_19_code
def yX6_dusk : MethodName := ⟨RX6, "dusk", "()I"⟩
abbrev cX6_type : ByteArray := prog_8_method_20_code
def yX6_type : MethodName := ⟨RX6, "type", "(I)I"⟩
abbrev cX6_clear : ByteArray := prog_8_method_21_code
def yX6_clear : MethodName := ⟨RX6, "clear", "()I"⟩
abbrev cX6_skip : ByteArray := prog_8_method_22_code
def yX6_skip : MethodName := ⟨RX6, "skip", "()V"⟩
abbrev cX6_meets : ByteArray := prog_8_method_23_code
def yX6_meets : MethodName := ⟨RX6, "meets", "(II)Z"⟩
abbrev cX6_opens : ByteArray := prog_8_method_24_code
def yX6_opens : MethodName := ⟨RX6, "opens", "(I)Z"⟩
abbrev cX6_endsBy : ByteArray := prog_8_method_25_code
def yX6_endsBy : MethodName := ⟨RX6, "endsBy", "(I)I"⟩
abbrev cX6_reads : ByteArray := prog_8_method_26_code
def yX6_reads : MethodName := ⟨RX6, "reads", "()I"⟩
abbrev cX6_notes : ByteArray := prog_8_method_27_code
def yX6_notes : MethodName := ⟨RX6, "notes", "(I)V"⟩
abbrev cX6_befalls : ByteArray := prog_8_method_28_code
def yX6_befalls : MethodName := ⟨RX6, "befalls", "(II)V"⟩
abbrev cX6_pushes : ByteArray := prog_8_method_29_code
def yX6_pushes : MethodName := ⟨RX6, "pushes", "(III)V"⟩
abbrev cX6_shuts : ByteArray := prog_8_method_30_code
def yX6_shuts : MethodName := ⟨RX6, "shuts", "(I)V"⟩
abbrev cX6_pops : ByteArray := prog_8_method_31_code
def yX6_pops : MethodName := ⟨RX6, "pops", "()V"⟩
abbrev cX6_goesIn : ByteArray := prog_8_method_32_code
def yX6_goesIn : MethodName := ⟨RX6, "goesIn", "(I)V"⟩
abbrev cX6_takesKey : ByteArray := prog_8_method_33_code
def yX6_takesKey : MethodName := ⟨RX6, "takesKey", "()V"⟩
abbrev cX6_wakes : ByteArray := prog_8_method_34_code
def yX6_wakes : MethodName := ⟨RX6, "wakes", "()V"⟩
abbrev cX6_looksIn : ByteArray := prog_8_method_35_code
def yX6_looksIn : MethodName := ⟨RX6, "looksIn", "()V"⟩
abbrev cX6_figureFrom : ByteArray := prog_8_method_36_code
def yX6_figureFrom : MethodName := ⟨RX6, "figureFrom", "(I)I"⟩
abbrev cX6_behindByte : ByteArray := prog_8_method_37_code
def yX6_behindByte : MethodName := ⟨RX6, "behindByte", "(I)V"⟩
abbrev cX6_begins : ByteArray := prog_8_method_38_code
def yX6_begins : MethodName := ⟨RX6, "begins", "(I)V"⟩
abbrev cX6_goesDown : ByteArray := prog_8_method_39_code
def yX6_goesDown : MethodName := ⟨RX6, "goesDown", "()V"⟩
abbrev cX6_endsAt : ByteArray := prog_8_method_40_code
def yX6_endsAt : MethodName := ⟨RX6, "endsAt", "(I)V"⟩
abbrev cX6_round : ByteArray := prog_8_method_41_code
def yX6_round : MethodName := ⟨RX6, "round", "()I"⟩
abbrev cX6_keepsWas : ByteArray := prog_8_method_42_code
def yX6_keepsWas : MethodName := ⟨RX6, "keepsWas", "(I)V"⟩
abbrev cX6_keep : ByteArray := prog_8_method_43_code
def yX6_keep : MethodName := ⟨RX6, "keep", "()V"⟩
abbrev cX6_bring : ByteArray := prog_8_method_44_code
def yX6_bring : MethodName := ⟨RX6, "bring", "()V"⟩
abbrev cX6_goes : ByteArray := prog_8_method_45_code
def yX6_goes : MethodName := ⟨RX6, "goes", "()I"⟩
abbrev cX6_tries : ByteArray := prog_8_method_46_code
def yX6_tries : MethodName := ⟨RX6, "tries", "()I"⟩
abbrev cX6_often : ByteArray := prog_8_method_47_code
def yX6_often : MethodName := ⟨RX6, "often", "(I)I"⟩
abbrev cX6_toldWas : ByteArray := prog_8_method_48_code
def yX6_toldWas : MethodName := ⟨RX6, "toldWas", "(I)I"⟩
abbrev cX6_was : ByteArray := prog_8_method_49_code
def yX6_was : MethodName := ⟨RX6, "was", "(I)I"⟩
abbrev cX6_root : ByteArray := prog_8_method_50_code
def yX6_root : MethodName := ⟨RX6, "root", "()I"⟩
abbrev cX6_diary : ByteArray := prog_8_method_51_code
def yX6_diary : MethodName := ⟨RX6, "diary", "(I)I"⟩
abbrev cX6_open : ByteArray := prog_8_method_52_code
def yX6_open : MethodName := ⟨RX6, "open", "()I"⟩
abbrev cX6_endBy : ByteArray := prog_8_method_53_code
def yX6_endBy : MethodName := ⟨RX6, "endBy", "(I)I"⟩
abbrev cX6_bits : ByteArray := prog_8_method_54_code
def yX6_bits : MethodName := ⟨RX6, "bits", "(I)I"⟩
abbrev cX6_fewest : ByteArray := prog_8_method_55_code
def yX6_fewest : MethodName := ⟨RX6, "fewest", "()I"⟩
abbrev cX6_were : ByteArray := prog_8_method_56_code
def yX6_were : MethodName := ⟨RX6, "were", "(II)I"⟩
abbrev cX6_cures : ByteArray := prog_8_method_57_code
def yX6_cures : MethodName := ⟨RX6, "cures", "(I)I"⟩
abbrev cX6_ends : ByteArray := prog_8_method_58_code
def yX6_ends : MethodName := ⟨RX6, "ends", "(I)I"⟩
abbrev cX6_told : ByteArray := prog_8_method_59_code
def yX6_told : MethodName := ⟨RX6, "told", "(I)I"⟩
abbrev cX6_atMost3 : ByteArray := prog_8_method_60_code
def yX6_atMost3 : MethodName := ⟨RX6, "atMost3", "(J)I"⟩
abbrev cX6_draw : ByteArray := prog_8_method_61_code
def yX6_draw : MethodName := ⟨RX6, "draw", "(I)I"⟩
abbrev cX6_back : ByteArray := prog_8_method_62_code
def yX6_back : MethodName := ⟨RX6, "back", "()I"⟩
abbrev cX6_lamps : ByteArray := prog_8_method_63_code
def yX6_lamps : MethodName := ⟨RX6, "lamps", "()I"⟩
abbrev cX6_counted : ByteArray := prog_8_method_64_code
def yX6_counted : MethodName := ⟨RX6, "counted", "(I)I"⟩
abbrev cX6_count : ByteArray := prog_8_method_65_code
def yX6_count : MethodName := ⟨RX6, "count", "(I)I"⟩
abbrev cX6_digest : ByteArray := prog_8_method_66_code
def yX6_digest : MethodName := ⟨RX6, "digest", "()J"⟩
def RJ9 : String := "java/lang/Math"
def TJ9 : u_T := fun k => match k with
  | _ => ("", "", "", false)
def tyJ9 : Nat → FieldType := fun k => match k with
  | _ => .int
abbrev cJ9_max_7cf53 : ByteArray := prog_9_method_65_code
def yJ9_max_7cf53 : MethodName := ⟨RJ9, "max", "(II)I"⟩
abbrev cJ9_min_7cf53 : ByteArray := prog_9_method_69_code
def yJ9_min_7cf53 : MethodName := ⟨RJ9, "min", "(II)I"⟩
def RJ10 : String := "java/lang/System"
def TJ10 : u_T := fun k => match k with
  | _ => ("", "", "", false)
def tyJ10 : Nat → FieldType := fun k => match k with
  | _ => .int
def RJ7 : String := "java/util/Arrays"
def TJ7 : u_T := fun k => match k with
  | _ => ("", "", "", false)
def tyJ7 : Nat → FieldType := fun k => match k with
  | _ => .int
abbrev cJ7_fill_53178 : ByteArray := prog_11_method_103_code
def yJ7_fill_53178 : MethodName := ⟨RJ7, "fill", "([II)V"⟩
def RL : String := "NightRoundsLaw"
abbrev cL_law : ByteArray := code
def yL_law : MethodName := ⟨RL, "law", "([I)Z"⟩
abbrev vwCl : List vw_C := [(RX0, TX0, 1), (RX1, TX1, 2), (RX2, TX2, 3), (RX3, TX3, 11), (RX4, TX4, 5), (RX5, TX5, 10), (RX6, TX6, 36)]
end
section
theorem dX0_init_0 : decode cX0_init 0 = .ok (.aload_n 0, 1) := by decide +kernel
theorem dX0_init_1 : decode cX0_init 1 = .ok (.invokespecial 3, 3) := by decide +kernel
theorem dX0_init_4 : decode cX0_init 4 = .ok (.aload_n 0, 1) := by decide +kernel
theorem dX0_init_5 : decode cX0_init 5 = .ok (.bipush 58, 2) := by decide +kernel
theorem dX0_init_7 : decode cX0_init 7 = .ok (.newarray .int, 2) := by decide +kernel
theorem dX0_init_9 : decode cX0_init 9 = .ok (.putfield 9, 3) := by decide +kernel
theorem dX0_init_12 : decode cX0_init 12 = .ok (.return_, 1) := by decide +kernel
theorem dX0_cell_0 : decode cX0_cell 0 = .ok (.iload_n 1, 1) := by decide +kernel
theorem dX0_cell_1 : decode cX0_cell 1 = .ok (.bipush 7, 2) := by decide +kernel
theorem dX0_cell_3 : decode cX0_cell 3 = .ok (.imul, 1) := by decide +kernel
theorem dX0_cell_4 : decode cX0_cell 4 = .ok (.iload_n 2, 1) := by decide +kernel
theorem dX0_cell_5 : decode cX0_cell 5 = .ok (.iadd, 1) := by decide +kernel
theorem dX0_cell_6 : decode cX0_cell 6 = .ok (.istore_n 3, 1) := by decide +kernel
theorem dX0_cell_7 : decode cX0_cell 7 = .ok (.iload_n 3, 1) := by decide +kernel
theorem dX0_cell_8 : decode cX0_cell 8 = .ok (.ifCond .lt 18, 3) := by decide +kernel
theorem dX0_cell_11 : decode cX0_cell 11 = .ok (.iload_n 3, 1) := by decide +kernel
theorem dX0_cell_12 : decode cX0_cell 12 = .ok (.bipush 58, 2) := by decide +kernel
theorem dX0_cell_14 : decode cX0_cell 14 = .ok (.if_icmp .ge 12, 3) := by decide +kernel
theorem dX0_cell_17 : decode cX0_cell 17 = .ok (.aload_n 0, 1) := by decide +kernel
theorem dX0_cell_18 : decode cX0_cell 18 = .ok (.getfield 9, 3) := by decide +kernel
theorem dX0_cell_21 : decode cX0_cell 21 = .ok (.iload_n 3, 1) := by decide +kernel
theorem dX0_cell_22 : decode cX0_cell 22 = .ok (.iaload, 1) := by decide +kernel
theorem dX0_cell_23 : decode cX0_cell 23 = .ok (.goto 4, 3) := by decide +kernel
theorem dX0_cell_26 : decode cX0_cell 26 = .ok (.iconst 0, 1) := by decide +kernel
theorem dX0_cell_27 : decode cX0_cell 27 = .ok (.ireturn, 1) := by decide +kernel
theorem dX0_setCell_0 : decode cX0_setCell 0 = .ok (.iload_n 1, 1) := by decide +kernel
theorem dX0_setCell_1 : decode cX0_setCell 1 = .ok (.bipush 7, 2) := by decide +kernel
theorem dX0_setCell_3 : decode cX0_setCell 3 = .ok (.imul, 1) := by decide +kernel
theorem dX0_setCell_4 : decode cX0_setCell 4 = .ok (.iload_n 2, 1) := by decide +kernel
theorem dX0_setCell_5 : decode cX0_setCell 5 = .ok (.iadd, 1) := by decide +kernel
theorem dX0_setCell_6 : decode cX0_setCell 6 = .ok (.istore 4, 2) := by decide +kernel
theorem dX0_setCell_8 : decode cX0_setCell 8 = .ok (.iload 4, 2) := by decide +kernel
theorem dX0_setCell_10 : decode cX0_setCell 10 = .ok (.ifCond .lt 18, 3) := by decide +kernel
theorem dX0_setCell_13 : decode cX0_setCell 13 = .ok (.iload 4, 2) := by decide +kernel
theorem dX0_setCell_15 : decode cX0_setCell 15 = .ok (.bipush 58, 2) := by decide +kernel
theorem dX0_setCell_17 : decode cX0_setCell 17 = .ok (.if_icmp .ge 11, 3) := by decide +kernel
theorem dX0_setCell_20 : decode cX0_setCell 20 = .ok (.aload_n 0, 1) := by decide +kernel
theorem dX0_setCell_21 : decode cX0_setCell 21 = .ok (.getfield 9, 3) := by decide +kernel
theorem dX0_setCell_24 : decode cX0_setCell 24 = .ok (.iload 4, 2) := by decide +kernel
theorem dX0_setCell_26 : decode cX0_setCell 26 = .ok (.iload_n 3, 1) := by decide +kernel
theorem dX0_setCell_27 : decode cX0_setCell 27 = .ok (.iastore, 1) := by decide +kernel
theorem dX0_setCell_28 : decode cX0_setCell 28 = .ok (.return_, 1) := by decide +kernel
theorem dX0_change_0 : decode cX0_change 0 = .ok (.aload_n 0, 1) := by decide +kernel
theorem dX0_change_1 : decode cX0_change 1 = .ok (.iload_n 1, 1) := by decide +kernel
theorem dX0_change_2 : decode cX0_change 2 = .ok (.iload_n 2, 1) := by decide +kernel
theorem dX0_change_3 : decode cX0_change 3 = .ok (.iload_n 3, 1) := by decide +kernel
theorem dX0_change_4 : decode cX0_change 4 = .ok (.invokevirtual 15, 3) := by decide +kernel
theorem dX0_change_7 : decode cX0_change 7 = .ok (.iload_n 2, 1) := by decide +kernel
theorem dX0_change_8 : decode cX0_change 8 = .ok (.iconst 3, 1) := by decide +kernel
theorem dX0_change_9 : decode cX0_change 9 = .ok (.if_icmp .ne 10, 3) := by decide +kernel
theorem dX0_change_12 : decode cX0_change 12 = .ok (.aload_n 0, 1) := by decide +kernel
theorem dX0_change_13 : decode cX0_change 13 = .ok (.iload_n 1, 1) := by decide +kernel
theorem dX0_change_14 : decode cX0_change 14 = .ok (.iconst 4, 1) := by decide +kernel
theorem dX0_change_15 : decode cX0_change 15 = .ok (.iconst 0, 1) := by decide +kernel
theorem dX0_change_16 : decode cX0_change 16 = .ok (.invokevirtual 15, 3) := by decide +kernel
theorem dX0_change_19 : decode cX0_change 19 = .ok (.return_, 1) := by decide +kernel
theorem dX0_keyring_0 : decode cX0_keyring 0 = .ok (.aload_n 0, 1) := by decide +kernel
theorem dX0_keyring_1 : decode cX0_keyring 1 = .ok (.getfield 9, 3) := by decide +kernel
theorem dX0_keyring_4 : decode cX0_keyring 4 = .ok (.bipush 56, 2) := by decide +kernel
theorem dX0_keyring_6 : decode cX0_keyring 6 = .ok (.iaload, 1) := by decide +kernel
theorem dX0_keyring_7 : decode cX0_keyring 7 = .ok (.ireturn, 1) := by decide +kernel
theorem dX0_giveKeys_0 : decode cX0_giveKeys 0 = .ok (.aload_n 0, 1) := by decide +kernel
theorem dX0_giveKeys_1 : decode cX0_giveKeys 1 = .ok (.getfield 9, 3) := by decide +kernel
theorem dX0_giveKeys_4 : decode cX0_giveKeys 4 = .ok (.bipush 56, 2) := by decide +kernel
theorem dX0_giveKeys_6 : decode cX0_giveKeys 6 = .ok (.iload_n 1, 1) := by decide +kernel
theorem dX0_giveKeys_7 : decode cX0_giveKeys 7 = .ok (.iastore, 1) := by decide +kernel
theorem dX0_giveKeys_8 : decode cX0_giveKeys 8 = .ok (.return_, 1) := by decide +kernel
theorem dX0_sum_0 : decode cX0_sum 0 = .ok (.aload_n 0, 1) := by decide +kernel
theorem dX0_sum_1 : decode cX0_sum 1 = .ok (.getfield 9, 3) := by decide +kernel
theorem dX0_sum_4 : decode cX0_sum 4 = .ok (.bipush 57, 2) := by decide +kernel
theorem dX0_sum_6 : decode cX0_sum 6 = .ok (.iaload, 1) := by decide +kernel
theorem dX0_sum_7 : decode cX0_sum 7 = .ok (.ireturn, 1) := by decide +kernel
theorem dX0_addToSum_0 : decode cX0_addToSum 0 = .ok (.aload_n 0, 1) := by decide +kernel
theorem dX0_addToSum_1 : decode cX0_addToSum 1 = .ok (.getfield 9, 3) := by decide +kernel
theorem dX0_addToSum_4 : decode cX0_addToSum 4 = .ok (.bipush 57, 2) := by decide +kernel
theorem dX0_addToSum_6 : decode cX0_addToSum 6 = .ok (.dup2, 1) := by decide +kernel
theorem dX0_addToSum_7 : decode cX0_addToSum 7 = .ok (.iaload, 1) := by decide +kernel
theorem dX0_addToSum_8 : decode cX0_addToSum 8 = .ok (.iload_n 1, 1) := by decide +kernel
theorem dX0_addToSum_9 : decode cX0_addToSum 9 = .ok (.iadd, 1) := by decide +kernel
theorem dX0_addToSum_10 : decode cX0_addToSum 10 = .ok (.iastore, 1) := by decide +kernel
theorem dX0_addToSum_11 : decode cX0_addToSum 11 = .ok (.return_, 1) := by decide +kernel
theorem dX0_loudness_0 : decode cX0_loudness 0 = .ok (.aload_n 0, 1) := by decide +kernel
theorem dX0_loudness_1 : decode cX0_loudness 1 = .ok (.iload_n 1, 1) := by decide +kernel
theorem dX0_loudness_2 : decode cX0_loudness 2 = .ok (.bipush 6, 2) := by decide +kernel
theorem dX0_loudness_4 : decode cX0_loudness 4 = .ok (.invokevirtual 19, 3) := by decide +kernel
theorem dX0_loudness_7 : decode cX0_loudness 7 = .ok (.istore_n 2, 1) := by decide +kernel
theorem dX0_loudness_8 : decode cX0_loudness 8 = .ok (.aload_n 0, 1) := by decide +kernel
theorem dX0_loudness_9 : decode cX0_loudness 9 = .ok (.iload_n 1, 1) := by decide +kernel
theorem dX0_loudness_10 : decode cX0_loudness 10 = .ok (.iconst 0, 1) := by decide +kernel
theorem dX0_loudness_11 : decode cX0_loudness 11 = .ok (.invokevirtual 19, 3) := by decide +kernel
theorem dX0_loudness_14 : decode cX0_loudness 14 = .ok (.tableswitch 55 1 4 #[30, 32, 37, 48], 30) := by decide +kernel
theorem dX0_loudness_44 : decode cX0_loudness 44 = .ok (.iconst 2, 1) := by decide +kernel
theorem dX0_loudness_45 : decode cX0_loudness 45 = .ok (.ireturn, 1) := by decide +kernel
theorem dX0_loudness_46 : decode cX0_loudness 46 = .ok (.iload_n 2, 1) := by decide +kernel
theorem dX0_loudness_47 : decode cX0_loudness 47 = .ok (.invokestatic 23, 3) := by decide +kernel
theorem dX0_loudness_50 : decode cX0_loudness 50 = .ok (.ireturn, 1) := by decide +kernel
theorem dX0_loudness_51 : decode cX0_loudness 51 = .ok (.iload_n 2, 1) := by decide +kernel
theorem dX0_loudness_52 : decode cX0_loudness 52 = .ok (.iconst 2, 1) := by decide +kernel
theorem dX0_loudness_53 : decode cX0_loudness 53 = .ok (.if_icmp .le 7, 3) := by decide +kernel
theorem dX0_loudness_56 : decode cX0_loudness 56 = .ok (.iconst 0, 1) := by decide +kernel
theorem dX0_loudness_57 : decode cX0_loudness 57 = .ok (.goto 4, 3) := by decide +kernel
theorem dX0_loudness_60 : decode cX0_loudness 60 = .ok (.iconst 2, 1) := by decide +kernel
theorem dX0_loudness_61 : decode cX0_loudness 61 = .ok (.ireturn, 1) := by decide +kernel
theorem dX0_loudness_62 : decode cX0_loudness 62 = .ok (.iconst 2, 1) := by decide +kernel
theorem dX0_loudness_63 : decode cX0_loudness 63 = .ok (.iload_n 2, 1) := by decide +kernel
theorem dX0_loudness_64 : decode cX0_loudness 64 = .ok (.invokestatic 23, 3) := by decide +kernel
theorem dX0_loudness_67 : decode cX0_loudness 67 = .ok (.imul, 1) := by decide +kernel
theorem dX0_loudness_68 : decode cX0_loudness 68 = .ok (.ireturn, 1) := by decide +kernel
theorem dX0_loudness_69 : decode cX0_loudness 69 = .ok (.iconst 0, 1) := by decide +kernel
theorem dX0_loudness_70 : decode cX0_loudness 70 = .ok (.ireturn, 1) := by decide +kernel
theorem dX0_swollen_0 : decode cX0_swollen 0 = .ok (.iconst 2, 1) := by decide +kernel
theorem dX0_swollen_1 : decode cX0_swollen 1 = .ok (.iload_n 0, 1) := by decide +kernel
theorem dX0_swollen_2 : decode cX0_swollen 2 = .ok (.iconst 3, 1) := by decide +kernel
theorem dX0_swollen_3 : decode cX0_swollen 3 = .ok (.irem, 1) := by decide +kernel
theorem dX0_swollen_4 : decode cX0_swollen 4 = .ok (.iadd, 1) := by decide +kernel
theorem dX0_swollen_5 : decode cX0_swollen 5 = .ok (.ireturn, 1) := by decide +kernel
theorem dX0_admits_0 : decode cX0_admits 0 = .ok (.aload_n 0, 1) := by decide +kernel
theorem dX0_admits_1 : decode cX0_admits 1 = .ok (.iload_n 1, 1) := by decide +kernel
theorem dX0_admits_2 : decode cX0_admits 2 = .ok (.iconst 1, 1) := by decide +kernel
theorem dX0_admits_3 : decode cX0_admits 3 = .ok (.invokevirtual 19, 3) := by decide +kernel
theorem dX0_admits_6 : decode cX0_admits 6 = .ok (.istore_n 2, 1) := by decide +kernel
theorem dX0_admits_7 : decode cX0_admits 7 = .ok (.iload_n 2, 1) := by decide +kernel
theorem dX0_admits_8 : decode cX0_admits 8 = .ok (.ifCond .eq 14, 3) := by decide +kernel
theorem dX0_admits_11 : decode cX0_admits 11 = .ok (.aload_n 0, 1) := by decide +kernel
theorem dX0_admits_12 : decode cX0_admits 12 = .ok (.invokevirtual 27, 3) := by decide +kernel
theorem dX0_admits_15 : decode cX0_admits 15 = .ok (.iconst 1, 1) := by decide +kernel
theorem dX0_admits_16 : decode cX0_admits 16 = .ok (.iload_n 2, 1) := by decide +kernel
theorem dX0_admits_17 : decode cX0_admits 17 = .ok (.ishl, 1) := by decide +kernel
theorem dX0_admits_18 : decode cX0_admits 18 = .ok (.iand, 1) := by decide +kernel
theorem dX0_admits_19 : decode cX0_admits 19 = .ok (.ifCond .eq 7, 3) := by decide +kernel
theorem dX0_admits_22 : decode cX0_admits 22 = .ok (.iconst 1, 1) := by decide +kernel
theorem dX0_admits_23 : decode cX0_admits 23 = .ok (.goto 4, 3) := by decide +kernel
theorem dX0_admits_26 : decode cX0_admits 26 = .ok (.iconst 0, 1) := by decide +kernel
theorem dX0_admits_27 : decode cX0_admits 27 = .ok (.ireturn, 1) := by decide +kernel
theorem dX0_sleepNow_0 : decode cX0_sleepNow 0 = .ok (.aload_n 0, 1) := by decide +kernel
theorem dX0_sleepNow_1 : decode cX0_sleepNow 1 = .ok (.iload_n 1, 1) := by decide +kernel
theorem dX0_sleepNow_2 : decode cX0_sleepNow 2 = .ok (.iconst 4, 1) := by decide +kernel
theorem dX0_sleepNow_3 : decode cX0_sleepNow 3 = .ok (.invokevirtual 19, 3) := by decide +kernel
theorem dX0_sleepNow_6 : decode cX0_sleepNow 6 = .ok (.ifCond .ne 12, 3) := by decide +kernel
theorem dX0_sleepNow_9 : decode cX0_sleepNow 9 = .ok (.aload_n 0, 1) := by decide +kernel
theorem dX0_sleepNow_10 : decode cX0_sleepNow 10 = .ok (.iload_n 1, 1) := by decide +kernel
theorem dX0_sleepNow_11 : decode cX0_sleepNow 11 = .ok (.iconst 3, 1) := by decide +kernel
theorem dX0_sleepNow_12 : decode cX0_sleepNow 12 = .ok (.invokevirtual 19, 3) := by decide +kernel
theorem dX0_sleepNow_15 : decode cX0_sleepNow 15 = .ok (.goto 4, 3) := by decide +kernel
theorem dX0_sleepNow_18 : decode cX0_sleepNow 18 = .ok (.iconst 0, 1) := by decide +kernel
theorem dX0_sleepNow_19 : decode cX0_sleepNow 19 = .ok (.ireturn, 1) := by decide +kernel
theorem dX0_wakes_0 : decode cX0_wakes 0 = .ok (.aload_n 0, 1) := by decide +kernel
theorem dX0_wakes_1 : decode cX0_wakes 1 = .ok (.iload_n 1, 1) := by decide +kernel
theorem dX0_wakes_2 : decode cX0_wakes 2 = .ok (.invokevirtual 31, 3) := by decide +kernel
theorem dX0_wakes_5 : decode cX0_wakes 5 = .ok (.istore_n 3, 1) := by decide +kernel
theorem dX0_wakes_6 : decode cX0_wakes 6 = .ok (.iload_n 3, 1) := by decide +kernel
theorem dX0_wakes_7 : decode cX0_wakes 7 = .ok (.ifCond .eq 8, 3) := by decide +kernel
theorem dX0_wakes_10 : decode cX0_wakes 10 = .ok (.iload_n 2, 1) := by decide +kernel
theorem dX0_wakes_11 : decode cX0_wakes 11 = .ok (.iload_n 3, 1) := by decide +kernel
theorem dX0_wakes_12 : decode cX0_wakes 12 = .ok (.if_icmp .ge 5, 3) := by decide +kernel
theorem dX0_wakes_15 : decode cX0_wakes 15 = .ok (.iconst 0, 1) := by decide +kernel
theorem dX0_wakes_16 : decode cX0_wakes 16 = .ok (.ireturn, 1) := by decide +kernel
theorem dX0_wakes_17 : decode cX0_wakes 17 = .ok (.aload_n 0, 1) := by decide +kernel
theorem dX0_wakes_18 : decode cX0_wakes 18 = .ok (.iload_n 1, 1) := by decide +kernel
theorem dX0_wakes_19 : decode cX0_wakes 19 = .ok (.iconst 4, 1) := by decide +kernel
theorem dX0_wakes_20 : decode cX0_wakes 20 = .ok (.iconst 1, 1) := by decide +kernel
theorem dX0_wakes_21 : decode cX0_wakes 21 = .ok (.invokevirtual 15, 3) := by decide +kernel
theorem dX0_wakes_24 : decode cX0_wakes 24 = .ok (.iconst 1, 1) := by decide +kernel
theorem dX0_wakes_25 : decode cX0_wakes 25 = .ok (.ireturn, 1) := by decide +kernel
theorem dX0_openDoor_0 : decode cX0_openDoor 0 = .ok (.aload_n 0, 1) := by decide +kernel
theorem dX0_openDoor_1 : decode cX0_openDoor 1 = .ok (.iload_n 1, 1) := by decide +kernel
theorem dX0_openDoor_2 : decode cX0_openDoor 2 = .ok (.bipush 6, 2) := by decide +kernel
theorem dX0_openDoor_4 : decode cX0_openDoor 4 = .ok (.aload_n 0, 1) := by decide +kernel
theorem dX0_openDoor_5 : decode cX0_openDoor 5 = .ok (.iload_n 1, 1) := by decide +kernel
theorem dX0_openDoor_6 : decode cX0_openDoor 6 = .ok (.bipush 6, 2) := by decide +kernel
theorem dX0_openDoor_8 : decode cX0_openDoor 8 = .ok (.invokevirtual 19, 3) := by decide +kernel
theorem dX0_openDoor_11 : decode cX0_openDoor 11 = .ok (.iconst 1, 1) := by decide +kernel
theorem dX0_openDoor_12 : decode cX0_openDoor 12 = .ok (.iadd, 1) := by decide +kernel
theorem dX0_openDoor_13 : decode cX0_openDoor 13 = .ok (.sipush 9999, 3) := by decide +kernel
theorem dX0_openDoor_16 : decode cX0_openDoor 16 = .ok (.invokestatic 34, 3) := by decide +kernel
theorem dX0_openDoor_19 : decode cX0_openDoor 19 = .ok (.invokevirtual 15, 3) := by decide +kernel
theorem dX0_openDoor_22 : decode cX0_openDoor 22 = .ok (.return_, 1) := by decide +kernel
theorem dX0_turnLamp_0 : decode cX0_turnLamp 0 = .ok (.aload_n 0, 1) := by decide +kernel
theorem dX0_turnLamp_1 : decode cX0_turnLamp 1 = .ok (.iload_n 1, 1) := by decide +kernel
theorem dX0_turnLamp_2 : decode cX0_turnLamp 2 = .ok (.iconst 5, 1) := by decide +kernel
theorem dX0_turnLamp_3 : decode cX0_turnLamp 3 = .ok (.iconst 1, 1) := by decide +kernel
theorem dX0_turnLamp_4 : decode cX0_turnLamp 4 = .ok (.aload_n 0, 1) := by decide +kernel
theorem dX0_turnLamp_5 : decode cX0_turnLamp 5 = .ok (.iload_n 1, 1) := by decide +kernel
theorem dX0_turnLamp_6 : decode cX0_turnLamp 6 = .ok (.iconst 5, 1) := by decide +kernel
theorem dX0_turnLamp_7 : decode cX0_turnLamp 7 = .ok (.invokevirtual 19, 3) := by decide +kernel
theorem dX0_turnLamp_10 : decode cX0_turnLamp 10 = .ok (.isub, 1) := by decide +kernel
theorem dX0_turnLamp_11 : decode cX0_turnLamp 11 = .ok (.invokevirtual 15, 3) := by decide +kernel
theorem dX0_turnLamp_14 : decode cX0_turnLamp 14 = .ok (.return_, 1) := by decide +kernel
theorem dX0_takeKey_0 : decode cX0_takeKey 0 = .ok (.aload_n 0, 1) := by decide +kernel
theorem dX0_takeKey_1 : decode cX0_takeKey 1 = .ok (.iload_n 1, 1) := by decide +kernel
theorem dX0_takeKey_2 : decode cX0_takeKey 2 = .ok (.iconst 2, 1) := by decide +kernel
theorem dX0_takeKey_3 : decode cX0_takeKey 3 = .ok (.invokevirtual 19, 3) := by decide +kernel
theorem dX0_takeKey_6 : decode cX0_takeKey 6 = .ok (.istore_n 2, 1) := by decide +kernel
theorem dX0_takeKey_7 : decode cX0_takeKey 7 = .ok (.iload_n 2, 1) := by decide +kernel
theorem dX0_takeKey_8 : decode cX0_takeKey 8 = .ok (.ifCond .eq 22, 3) := by decide +kernel
theorem dX0_takeKey_11 : decode cX0_takeKey 11 = .ok (.aload_n 0, 1) := by decide +kernel
theorem dX0_takeKey_12 : decode cX0_takeKey 12 = .ok (.aload_n 0, 1) := by decide +kernel
theorem dX0_takeKey_13 : decode cX0_takeKey 13 = .ok (.invokevirtual 27, 3) := by decide +kernel
theorem dX0_takeKey_16 : decode cX0_takeKey 16 = .ok (.iconst 1, 1) := by decide +kernel
theorem dX0_takeKey_17 : decode cX0_takeKey 17 = .ok (.iload_n 2, 1) := by decide +kernel
theorem dX0_takeKey_18 : decode cX0_takeKey 18 = .ok (.ishl, 1) := by decide +kernel
theorem dX0_takeKey_19 : decode cX0_takeKey 19 = .ok (.ior, 1) := by decide +kernel
theorem dX0_takeKey_20 : decode cX0_takeKey 20 = .ok (.invokevirtual 39, 3) := by decide +kernel
theorem dX0_takeKey_23 : decode cX0_takeKey 23 = .ok (.aload_n 0, 1) := by decide +kernel
theorem dX0_takeKey_24 : decode cX0_takeKey 24 = .ok (.iload_n 1, 1) := by decide +kernel
theorem dX0_takeKey_25 : decode cX0_takeKey 25 = .ok (.iconst 2, 1) := by decide +kernel
theorem dX0_takeKey_26 : decode cX0_takeKey 26 = .ok (.iconst 0, 1) := by decide +kernel
theorem dX0_takeKey_27 : decode cX0_takeKey 27 = .ok (.invokevirtual 15, 3) := by decide +kernel
theorem dX0_takeKey_30 : decode cX0_takeKey 30 = .ok (.return_, 1) := by decide +kernel
theorem dX0_roomsWith_0 : decode cX0_roomsWith 0 = .ok (.iconst 0, 1) := by decide +kernel
theorem dX0_roomsWith_1 : decode cX0_roomsWith 1 = .ok (.istore_n 2, 1) := by decide +kernel
theorem dX0_roomsWith_2 : decode cX0_roomsWith 2 = .ok (.iconst 0, 1) := by decide +kernel
theorem dX0_roomsWith_3 : decode cX0_roomsWith 3 = .ok (.istore_n 3, 1) := by decide +kernel
theorem dX0_roomsWith_4 : decode cX0_roomsWith 4 = .ok (.iload_n 3, 1) := by decide +kernel
theorem dX0_roomsWith_5 : decode cX0_roomsWith 5 = .ok (.bipush 8, 2) := by decide +kernel
theorem dX0_roomsWith_7 : decode cX0_roomsWith 7 = .ok (.if_icmp .ge 21, 3) := by decide +kernel
theorem dX0_roomsWith_10 : decode cX0_roomsWith 10 = .ok (.aload_n 0, 1) := by decide +kernel
theorem dX0_roomsWith_11 : decode cX0_roomsWith 11 = .ok (.iload_n 3, 1) := by decide +kernel
theorem dX0_roomsWith_12 : decode cX0_roomsWith 12 = .ok (.iload_n 1, 1) := by decide +kernel
theorem dX0_roomsWith_13 : decode cX0_roomsWith 13 = .ok (.invokevirtual 19, 3) := by decide +kernel
theorem dX0_roomsWith_16 : decode cX0_roomsWith 16 = .ok (.ifCond .eq 6, 3) := by decide +kernel
theorem dX0_roomsWith_19 : decode cX0_roomsWith 19 = .ok (.iinc 2 1, 3) := by decide +kernel
theorem dX0_roomsWith_22 : decode cX0_roomsWith 22 = .ok (.iinc 3 1, 3) := by decide +kernel
theorem dX0_roomsWith_25 : decode cX0_roomsWith 25 = .ok (.goto (-21), 3) := by decide +kernel
theorem dX0_roomsWith_28 : decode cX0_roomsWith 28 = .ok (.iload_n 2, 1) := by decide +kernel
theorem dX0_roomsWith_29 : decode cX0_roomsWith 29 = .ok (.ireturn, 1) := by decide +kernel
theorem dX0_settle_0 : decode cX0_settle 0 = .ok (.iconst 0, 1) := by decide +kernel
theorem dX0_settle_1 : decode cX0_settle 1 = .ok (.istore_n 1, 1) := by decide +kernel
theorem dX0_settle_2 : decode cX0_settle 2 = .ok (.iload_n 1, 1) := by decide +kernel
theorem dX0_settle_3 : decode cX0_settle 3 = .ok (.bipush 8, 2) := by decide +kernel
theorem dX0_settle_5 : decode cX0_settle 5 = .ok (.if_icmp .ge 23, 3) := by decide +kernel
theorem dX0_settle_8 : decode cX0_settle 8 = .ok (.aload_n 0, 1) := by decide +kernel
theorem dX0_settle_9 : decode cX0_settle 9 = .ok (.iload_n 1, 1) := by decide +kernel
theorem dX0_settle_10 : decode cX0_settle 10 = .ok (.iconst 4, 1) := by decide +kernel
theorem dX0_settle_11 : decode cX0_settle 11 = .ok (.iconst 0, 1) := by decide +kernel
theorem dX0_settle_12 : decode cX0_settle 12 = .ok (.invokevirtual 15, 3) := by decide +kernel
theorem dX0_settle_15 : decode cX0_settle 15 = .ok (.aload_n 0, 1) := by decide +kernel
theorem dX0_settle_16 : decode cX0_settle 16 = .ok (.iload_n 1, 1) := by decide +kernel
theorem dX0_settle_17 : decode cX0_settle 17 = .ok (.iconst 5, 1) := by decide +kernel
theorem dX0_settle_18 : decode cX0_settle 18 = .ok (.iconst 0, 1) := by decide +kernel
theorem dX0_settle_19 : decode cX0_settle 19 = .ok (.invokevirtual 15, 3) := by decide +kernel
theorem dX0_settle_22 : decode cX0_settle 22 = .ok (.iinc 1 1, 3) := by decide +kernel
theorem dX0_settle_25 : decode cX0_settle 25 = .ok (.goto (-23), 3) := by decide +kernel
theorem dX0_settle_28 : decode cX0_settle 28 = .ok (.return_, 1) := by decide +kernel
theorem dX0_become_0 : decode cX0_become 0 = .ok (.aload_n 1, 1) := by decide +kernel
theorem dX0_become_1 : decode cX0_become 1 = .ok (.getfield 9, 3) := by decide +kernel
theorem dX0_become_4 : decode cX0_become 4 = .ok (.iconst 0, 1) := by decide +kernel
theorem dX0_become_5 : decode cX0_become 5 = .ok (.aload_n 0, 1) := by decide +kernel
theorem dX0_become_6 : decode cX0_become 6 = .ok (.getfield 9, 3) := by decide +kernel
theorem dX0_become_9 : decode cX0_become 9 = .ok (.iconst 0, 1) := by decide +kernel
theorem dX0_become_10 : decode cX0_become 10 = .ok (.bipush 58, 2) := by decide +kernel
theorem dX0_become_12 : decode cX0_become 12 = .ok (.invokestatic 43, 3) := by decide +kernel
theorem dX0_become_15 : decode cX0_become 15 = .ok (.return_, 1) := by decide +kernel
theorem dX0_drawFrom_0 : decode cX0_drawFrom 0 = .ok (.aload_n 0, 1) := by decide +kernel
theorem dX0_drawFrom_1 : decode cX0_drawFrom 1 = .ok (.getfield 9, 3) := by decide +kernel
theorem dX0_drawFrom_4 : decode cX0_drawFrom 4 = .ok (.iconst 0, 1) := by decide +kernel
theorem dX0_drawFrom_5 : decode cX0_drawFrom 5 = .ok (.invokestatic 49, 3) := by decide +kernel
theorem dX0_drawFrom_8 : decode cX0_drawFrom 8 = .ok (.iload_n 1, 1) := by decide +kernel
theorem dX0_drawFrom_9 : decode cX0_drawFrom 9 = .ok (.i2l, 1) := by decide +kernel
theorem dX0_drawFrom_10 : decode cX0_drawFrom 10 = .ok (.lstore_n 2, 1) := by decide +kernel
theorem dX0_drawFrom_11 : decode cX0_drawFrom 11 = .ok (.iconst 0, 1) := by decide +kernel
theorem dX0_drawFrom_12 : decode cX0_drawFrom 12 = .ok (.istore 4, 2) := by decide +kernel
theorem dX0_drawFrom_14 : decode cX0_drawFrom 14 = .ok (.iload 4, 2) := by decide +kernel
theorem dX0_drawFrom_16 : decode cX0_drawFrom 16 = .ok (.bipush 8, 2) := by decide +kernel
theorem dX0_drawFrom_18 : decode cX0_drawFrom 18 = .ok (.if_icmp .ge 97, 3) := by decide +kernel
theorem dX0_drawFrom_21 : decode cX0_drawFrom 21 = .ok (.lload_n 2, 1) := by decide +kernel
theorem dX0_drawFrom_22 : decode cX0_drawFrom 22 = .ok (.ldc2_w 55, 3) := by decide +kernel
theorem dX0_drawFrom_25 : decode cX0_drawFrom 25 = .ok (.lmul, 1) := by decide +kernel
theorem dX0_drawFrom_26 : decode cX0_drawFrom 26 = .ok (.ldc2_w 57, 3) := by decide +kernel
theorem dX0_drawFrom_29 : decode cX0_drawFrom 29 = .ok (.ladd, 1) := by decide +kernel
theorem dX0_drawFrom_30 : decode cX0_drawFrom 30 = .ok (.ldc2_w 59, 3) := by decide +kernel
theorem dX0_drawFrom_33 : decode cX0_drawFrom 33 = .ok (.lrem, 1) := by decide +kernel
theorem dX0_drawFrom_34 : decode cX0_drawFrom 34 = .ok (.lstore_n 2, 1) := by decide +kernel
theorem dX0_drawFrom_35 : decode cX0_drawFrom 35 = .ok (.aload_n 0, 1) := by decide +kernel
theorem dX0_drawFrom_36 : decode cX0_drawFrom 36 = .ok (.iload 4, 2) := by decide +kernel
theorem dX0_drawFrom_38 : decode cX0_drawFrom 38 = .ok (.iconst 0, 1) := by decide +kernel
theorem dX0_drawFrom_39 : decode cX0_drawFrom 39 = .ok (.lload_n 2, 1) := by decide +kernel
theorem dX0_drawFrom_40 : decode cX0_drawFrom 40 = .ok (.ldc2_w 61, 3) := by decide +kernel
theorem dX0_drawFrom_43 : decode cX0_drawFrom 43 = .ok (.ldiv, 1) := by decide +kernel
theorem dX0_drawFrom_44 : decode cX0_drawFrom 44 = .ok (.ldc2_w 63, 3) := by decide +kernel
theorem dX0_drawFrom_47 : decode cX0_drawFrom 47 = .ok (.lrem, 1) := by decide +kernel
theorem dX0_drawFrom_48 : decode cX0_drawFrom 48 = .ok (.l2i, 1) := by decide +kernel
theorem dX0_drawFrom_49 : decode cX0_drawFrom 49 = .ok (.invokevirtual 15, 3) := by decide +kernel
theorem dX0_drawFrom_52 : decode cX0_drawFrom 52 = .ok (.aload_n 0, 1) := by decide +kernel
theorem dX0_drawFrom_53 : decode cX0_drawFrom 53 = .ok (.iload 4, 2) := by decide +kernel
theorem dX0_drawFrom_55 : decode cX0_drawFrom 55 = .ok (.iconst 1, 1) := by decide +kernel
theorem dX0_drawFrom_56 : decode cX0_drawFrom 56 = .ok (.lload_n 2, 1) := by decide +kernel
theorem dX0_drawFrom_57 : decode cX0_drawFrom 57 = .ok (.ldc2_w 65, 3) := by decide +kernel
theorem dX0_drawFrom_60 : decode cX0_drawFrom 60 = .ok (.ldiv, 1) := by decide +kernel
theorem dX0_drawFrom_61 : decode cX0_drawFrom 61 = .ok (.ldc2_w 67, 3) := by decide +kernel
theorem dX0_drawFrom_64 : decode cX0_drawFrom 64 = .ok (.lrem, 1) := by decide +kernel
theorem dX0_drawFrom_65 : decode cX0_drawFrom 65 = .ok (.l2i, 1) := by decide +kernel
theorem dX0_drawFrom_66 : decode cX0_drawFrom 66 = .ok (.invokestatic 69, 3) := by decide +kernel
theorem dX0_drawFrom_69 : decode cX0_drawFrom 69 = .ok (.invokevirtual 15, 3) := by decide +kernel
theorem dX0_drawFrom_72 : decode cX0_drawFrom 72 = .ok (.aload_n 0, 1) := by decide +kernel
theorem dX0_drawFrom_73 : decode cX0_drawFrom 73 = .ok (.iload 4, 2) := by decide +kernel
theorem dX0_drawFrom_75 : decode cX0_drawFrom 75 = .ok (.iconst 2, 1) := by decide +kernel
theorem dX0_drawFrom_76 : decode cX0_drawFrom 76 = .ok (.lload_n 2, 1) := by decide +kernel
theorem dX0_drawFrom_77 : decode cX0_drawFrom 77 = .ok (.ldc2_w 72, 3) := by decide +kernel
theorem dX0_drawFrom_80 : decode cX0_drawFrom 80 = .ok (.ldiv, 1) := by decide +kernel
theorem dX0_drawFrom_81 : decode cX0_drawFrom 81 = .ok (.ldc2_w 67, 3) := by decide +kernel
theorem dX0_drawFrom_84 : decode cX0_drawFrom 84 = .ok (.lrem, 1) := by decide +kernel
theorem dX0_drawFrom_85 : decode cX0_drawFrom 85 = .ok (.l2i, 1) := by decide +kernel
theorem dX0_drawFrom_86 : decode cX0_drawFrom 86 = .ok (.invokestatic 69, 3) := by decide +kernel
theorem dX0_drawFrom_89 : decode cX0_drawFrom 89 = .ok (.invokevirtual 15, 3) := by decide +kernel
theorem dX0_drawFrom_92 : decode cX0_drawFrom 92 = .ok (.aload_n 0, 1) := by decide +kernel
theorem dX0_drawFrom_93 : decode cX0_drawFrom 93 = .ok (.iload 4, 2) := by decide +kernel
theorem dX0_drawFrom_95 : decode cX0_drawFrom 95 = .ok (.iconst 3, 1) := by decide +kernel
theorem dX0_drawFrom_96 : decode cX0_drawFrom 96 = .ok (.lload_n 2, 1) := by decide +kernel
theorem dX0_drawFrom_97 : decode cX0_drawFrom 97 = .ok (.ldc2_w 74, 3) := by decide +kernel
theorem dX0_drawFrom_100 : decode cX0_drawFrom 100 = .ok (.ldiv, 1) := by decide +kernel
theorem dX0_drawFrom_101 : decode cX0_drawFrom 101 = .ok (.ldc2_w 76, 3) := by decide +kernel
theorem dX0_drawFrom_104 : decode cX0_drawFrom 104 = .ok (.lrem, 1) := by decide +kernel
theorem dX0_drawFrom_105 : decode cX0_drawFrom 105 = .ok (.l2i, 1) := by decide +kernel
theorem dX0_drawFrom_106 : decode cX0_drawFrom 106 = .ok (.invokevirtual 15, 3) := by decide +kernel
theorem dX0_drawFrom_109 : decode cX0_drawFrom 109 = .ok (.iinc 4 1, 3) := by decide +kernel
theorem dX0_drawFrom_112 : decode cX0_drawFrom 112 = .ok (.goto (-98), 3) := by decide +kernel
theorem dX0_drawFrom_115 : decode cX0_drawFrom 115 = .ok (.return_, 1) := by decide +kernel
theorem dX0_upToThree_0 : decode cX0_upToThree 0 = .ok (.iload_n 0, 1) := by decide +kernel
theorem dX0_upToThree_1 : decode cX0_upToThree 1 = .ok (.iconst 3, 1) := by decide +kernel
theorem dX0_upToThree_2 : decode cX0_upToThree 2 = .ok (.if_icmp .le 7, 3) := by decide +kernel
theorem dX0_upToThree_5 : decode cX0_upToThree 5 = .ok (.iconst 0, 1) := by decide +kernel
theorem dX0_upToThree_6 : decode cX0_upToThree 6 = .ok (.goto 4, 3) := by decide +kernel
theorem dX0_upToThree_9 : decode cX0_upToThree 9 = .ok (.iload_n 0, 1) := by decide +kernel
theorem dX0_upToThree_10 : decode cX0_upToThree 10 = .ok (.ireturn, 1) := by decide +kernel
theorem dX1_init_0 : decode cX1_init 0 = .ok (.aload_n 0, 1) := by decide +kernel
theorem dX1_init_1 : decode cX1_init 1 = .ok (.invokespecial 3, 3) := by decide +kernel
theorem dX1_init_4 : decode cX1_init 4 = .ok (.aload_n 0, 1) := by decide +kernel
theorem dX1_init_5 : decode cX1_init 5 = .ok (.sipush 464, 3) := by decide +kernel
theorem dX1_init_8 : decode cX1_init 8 = .ok (.newarray .int, 2) := by decide +kernel
theorem dX1_init_10 : decode cX1_init 10 = .ok (.putfield 9, 3) := by decide +kernel
theorem dX1_init_13 : decode cX1_init 13 = .ok (.return_, 1) := by decide +kernel
theorem dX1_held_0 : decode cX1_held 0 = .ok (.aload_n 0, 1) := by decide +kernel
theorem dX1_held_1 : decode cX1_held 1 = .ok (.getfield 15, 3) := by decide +kernel
theorem dX1_held_4 : decode cX1_held 4 = .ok (.ireturn, 1) := by decide +kernel
theorem dX1_keep_0 : decode cX1_keep 0 = .ok (.aload_n 0, 1) := by decide +kernel
theorem dX1_keep_1 : decode cX1_keep 1 = .ok (.getfield 15, 3) := by decide +kernel
theorem dX1_keep_4 : decode cX1_keep 4 = .ok (.bipush 8, 2) := by decide +kernel
theorem dX1_keep_6 : decode cX1_keep 6 = .ok (.if_icmp .lt 31, 3) := by decide +kernel
theorem dX1_keep_9 : decode cX1_keep 9 = .ok (.aload_n 0, 1) := by decide +kernel
theorem dX1_keep_10 : decode cX1_keep 10 = .ok (.getfield 9, 3) := by decide +kernel
theorem dX1_keep_13 : decode cX1_keep 13 = .ok (.bipush 58, 2) := by decide +kernel
theorem dX1_keep_15 : decode cX1_keep 15 = .ok (.aload_n 0, 1) := by decide +kernel
theorem dX1_keep_16 : decode cX1_keep 16 = .ok (.getfield 9, 3) := by decide +kernel
theorem dX1_keep_19 : decode cX1_keep 19 = .ok (.iconst 0, 1) := by decide +kernel
theorem dX1_keep_20 : decode cX1_keep 20 = .ok (.aload_n 0, 1) := by decide +kernel
theorem dX1_keep_21 : decode cX1_keep 21 = .ok (.getfield 9, 3) := by decide +kernel
theorem dX1_keep_24 : decode cX1_keep 24 = .ok (.arraylength, 1) := by decide +kernel
theorem dX1_keep_25 : decode cX1_keep 25 = .ok (.bipush 58, 2) := by decide +kernel
theorem dX1_keep_27 : decode cX1_keep 27 = .ok (.isub, 1) := by decide +kernel
theorem dX1_keep_28 : decode cX1_keep 28 = .ok (.invokestatic 19, 3) := by decide +kernel
theorem dX1_keep_31 : decode cX1_keep 31 = .ok (.aload_n 0, 1) := by decide +kernel
theorem dX1_keep_32 : decode cX1_keep 32 = .ok (.bipush 7, 2) := by decide +kernel
theorem dX1_keep_34 : decode cX1_keep 34 = .ok (.putfield 15, 3) := by decide +kernel
theorem dX1_keep_37 : decode cX1_keep 37 = .ok (.aload_n 1, 1) := by decide +kernel
theorem dX1_keep_38 : decode cX1_keep 38 = .ok (.getfield 25, 3) := by decide +kernel
theorem dX1_keep_41 : decode cX1_keep 41 = .ok (.iconst 0, 1) := by decide +kernel
theorem dX1_keep_42 : decode cX1_keep 42 = .ok (.aload_n 0, 1) := by decide +kernel
theorem dX1_keep_43 : decode cX1_keep 43 = .ok (.getfield 9, 3) := by decide +kernel
theorem dX1_keep_46 : decode cX1_keep 46 = .ok (.aload_n 0, 1) := by decide +kernel
theorem dX1_keep_47 : decode cX1_keep 47 = .ok (.getfield 15, 3) := by decide +kernel
theorem dX1_keep_50 : decode cX1_keep 50 = .ok (.bipush 58, 2) := by decide +kernel
theorem dX1_keep_52 : decode cX1_keep 52 = .ok (.imul, 1) := by decide +kernel
theorem dX1_keep_53 : decode cX1_keep 53 = .ok (.bipush 58, 2) := by decide +kernel
theorem dX1_keep_55 : decode cX1_keep 55 = .ok (.invokestatic 19, 3) := by decide +kernel
theorem dX1_keep_58 : decode cX1_keep 58 = .ok (.aload_n 0, 1) := by decide +kernel
theorem dX1_keep_59 : decode cX1_keep 59 = .ok (.dup, 1) := by decide +kernel
theorem dX1_keep_60 : decode cX1_keep 60 = .ok (.getfield 15, 3) := by decide +kernel
theorem dX1_keep_63 : decode cX1_keep 63 = .ok (.iconst 1, 1) := by decide +kernel
theorem dX1_keep_64 : decode cX1_keep 64 = .ok (.iadd, 1) := by decide +kernel
theorem dX1_keep_65 : decode cX1_keep 65 = .ok (.putfield 15, 3) := by decide +kernel
theorem dX1_keep_68 : decode cX1_keep 68 = .ok (.return_, 1) := by decide +kernel
theorem dX1_giveBack_0 : decode cX1_giveBack 0 = .ok (.aload_n 0, 1) := by decide +kernel
theorem dX1_giveBack_1 : decode cX1_giveBack 1 = .ok (.getfield 15, 3) := by decide +kernel
theorem dX1_giveBack_4 : decode cX1_giveBack 4 = .ok (.ifCond .le 34, 3) := by decide +kernel
theorem dX1_giveBack_7 : decode cX1_giveBack 7 = .ok (.aload_n 0, 1) := by decide +kernel
theorem dX1_giveBack_8 : decode cX1_giveBack 8 = .ok (.dup, 1) := by decide +kernel
theorem dX1_giveBack_9 : decode cX1_giveBack 9 = .ok (.getfield 15, 3) := by decide +kernel
theorem dX1_giveBack_12 : decode cX1_giveBack 12 = .ok (.iconst 1, 1) := by decide +kernel
theorem dX1_giveBack_13 : decode cX1_giveBack 13 = .ok (.isub, 1) := by decide +kernel
theorem dX1_giveBack_14 : decode cX1_giveBack 14 = .ok (.putfield 15, 3) := by decide +kernel
theorem dX1_giveBack_17 : decode cX1_giveBack 17 = .ok (.aload_n 0, 1) := by decide +kernel
theorem dX1_giveBack_18 : decode cX1_giveBack 18 = .ok (.getfield 9, 3) := by decide +kernel
theorem dX1_giveBack_21 : decode cX1_giveBack 21 = .ok (.aload_n 0, 1) := by decide +kernel
theorem dX1_giveBack_22 : decode cX1_giveBack 22 = .ok (.getfield 15, 3) := by decide +kernel
theorem dX1_giveBack_25 : decode cX1_giveBack 25 = .ok (.bipush 58, 2) := by decide +kernel
theorem dX1_giveBack_27 : decode cX1_giveBack 27 = .ok (.imul, 1) := by decide +kernel
theorem dX1_giveBack_28 : decode cX1_giveBack 28 = .ok (.aload_n 1, 1) := by decide +kernel
theorem dX1_giveBack_29 : decode cX1_giveBack 29 = .ok (.getfield 25, 3) := by decide +kernel
theorem dX1_giveBack_32 : decode cX1_giveBack 32 = .ok (.iconst 0, 1) := by decide +kernel
theorem dX1_giveBack_33 : decode cX1_giveBack 33 = .ok (.bipush 58, 2) := by decide +kernel
theorem dX1_giveBack_35 : decode cX1_giveBack 35 = .ok (.invokestatic 19, 3) := by decide +kernel
theorem dX1_giveBack_38 : decode cX1_giveBack 38 = .ok (.return_, 1) := by decide +kernel
theorem dX2_init_0 : decode cX2_init 0 = .ok (.aload_n 0, 1) := by decide +kernel
theorem dX2_init_1 : decode cX2_init 1 = .ok (.invokespecial 3, 3) := by decide +kernel
theorem dX2_init_4 : decode cX2_init 4 = .ok (.aload_n 0, 1) := by decide +kernel
theorem dX2_init_5 : decode cX2_init 5 = .ok (.aload_n 1, 1) := by decide +kernel
theorem dX2_init_6 : decode cX2_init 6 = .ok (.putfield 9, 3) := by decide +kernel
theorem dX2_init_9 : decode cX2_init 9 = .ok (.aload_n 0, 1) := by decide +kernel
theorem dX2_init_10 : decode cX2_init 10 = .ok (.aload_n 2, 1) := by decide +kernel
theorem dX2_init_11 : decode cX2_init 11 = .ok (.putfield 15, 3) := by decide +kernel
theorem dX2_init_14 : decode cX2_init 14 = .ok (.aload_n 0, 1) := by decide +kernel
theorem dX2_init_15 : decode cX2_init 15 = .ok (.aload_n 3, 1) := by decide +kernel
theorem dX2_init_16 : decode cX2_init 16 = .ok (.putfield 19, 3) := by decide +kernel
theorem dX2_init_19 : decode cX2_init 19 = .ok (.return_, 1) := by decide +kernel
theorem dX2_walk_0 : decode cX2_walk 0 = .ok (.aload_n 0, 1) := by decide +kernel
theorem dX2_walk_1 : decode cX2_walk 1 = .ok (.aload_n 1, 1) := by decide +kernel
theorem dX2_walk_2 : decode cX2_walk 2 = .ok (.putfield 15, 3) := by decide +kernel
theorem dX2_walk_5 : decode cX2_walk 5 = .ok (.aload_n 0, 1) := by decide +kernel
theorem dX2_walk_6 : decode cX2_walk 6 = .ok (.aload_n 2, 1) := by decide +kernel
theorem dX2_walk_7 : decode cX2_walk 7 = .ok (.putfield 19, 3) := by decide +kernel
theorem dX2_walk_10 : decode cX2_walk 10 = .ok (.aload_n 0, 1) := by decide +kernel
theorem dX2_walk_11 : decode cX2_walk 11 = .ok (.getfield 19, 3) := by decide +kernel
theorem dX2_walk_14 : decode cX2_walk 14 = .ok (.invokevirtual 23, 3) := by decide +kernel
theorem dX2_walk_17 : decode cX2_walk 17 = .ok (.aload_n 0, 1) := by decide +kernel
theorem dX2_walk_18 : decode cX2_walk 18 = .ok (.iconst 0, 1) := by decide +kernel
theorem dX2_walk_19 : decode cX2_walk 19 = .ok (.aload_n 0, 1) := by decide +kernel
theorem dX2_walk_20 : decode cX2_walk 20 = .ok (.getfield 9, 3) := by decide +kernel
theorem dX2_walk_23 : decode cX2_walk 23 = .ok (.invokevirtual 28, 3) := by decide +kernel
theorem dX2_walk_26 : decode cX2_walk 26 = .ok (.iconst (-1), 1) := by decide +kernel
theorem dX2_walk_27 : decode cX2_walk 27 = .ok (.iconst 0, 1) := by decide +kernel
theorem dX2_walk_28 : decode cX2_walk 28 = .ok (.invokevirtual 34, 3) := by decide +kernel
theorem dX2_walk_31 : decode cX2_walk 31 = .ok (.pop, 1) := by decide +kernel
theorem dX2_walk_32 : decode cX2_walk 32 = .ok (.aload_n 0, 1) := by decide +kernel
theorem dX2_walk_33 : decode cX2_walk 33 = .ok (.getfield 19, 3) := by decide +kernel
theorem dX2_walk_36 : decode cX2_walk 36 = .ok (.aload_n 0, 1) := by decide +kernel
theorem dX2_walk_37 : decode cX2_walk 37 = .ok (.getfield 15, 3) := by decide +kernel
theorem dX2_walk_40 : decode cX2_walk 40 = .ok (.invokevirtual 38, 3) := by decide +kernel
theorem dX2_walk_43 : decode cX2_walk 43 = .ok (.invokevirtual 43, 3) := by decide +kernel
theorem dX2_walk_46 : decode cX2_walk 46 = .ok (.aload_n 0, 1) := by decide +kernel
theorem dX2_walk_47 : decode cX2_walk 47 = .ok (.getfield 19, 3) := by decide +kernel
theorem dX2_walk_50 : decode cX2_walk 50 = .ok (.iconst 0, 1) := by decide +kernel
theorem dX2_walk_51 : decode cX2_walk 51 = .ok (.invokevirtual 47, 3) := by decide +kernel
theorem dX2_walk_54 : decode cX2_walk 54 = .ok (.ireturn, 1) := by decide +kernel
theorem dX2_doActs_0 : decode cX2_doActs 0 = .ok (.iload_n 1, 1) := by decide +kernel
theorem dX2_doActs_1 : decode cX2_doActs 1 = .ok (.istore 5, 2) := by decide +kernel
theorem dX2_doActs_3 : decode cX2_doActs 3 = .ok (.iconst 0, 1) := by decide +kernel
theorem dX2_doActs_4 : decode cX2_doActs 4 = .ok (.istore 6, 2) := by decide +kernel
theorem dX2_doActs_6 : decode cX2_doActs 6 = .ok (.iload 6, 2) := by decide +kernel
theorem dX2_doActs_8 : decode cX2_doActs 8 = .ok (.bipush 100, 2) := by decide +kernel
theorem dX2_doActs_10 : decode cX2_doActs 10 = .ok (.if_icmp .ge 47, 3) := by decide +kernel
theorem dX2_doActs_13 : decode cX2_doActs 13 = .ok (.iload 5, 2) := by decide +kernel
theorem dX2_doActs_15 : decode cX2_doActs 15 = .ok (.iload_n 2, 1) := by decide +kernel
theorem dX2_doActs_16 : decode cX2_doActs 16 = .ok (.if_icmp .ge 41, 3) := by decide +kernel
theorem dX2_doActs_19 : decode cX2_doActs 19 = .ok (.iload 4, 2) := by decide +kernel
theorem dX2_doActs_21 : decode cX2_doActs 21 = .ok (.bipush 8, 2) := by decide +kernel
theorem dX2_doActs_23 : decode cX2_doActs 23 = .ok (.if_icmp .gt 34, 3) := by decide +kernel
theorem dX2_doActs_26 : decode cX2_doActs 26 = .ok (.aload_n 0, 1) := by decide +kernel
theorem dX2_doActs_27 : decode cX2_doActs 27 = .ok (.iload 5, 2) := by decide +kernel
theorem dX2_doActs_29 : decode cX2_doActs 29 = .ok (.iload_n 3, 1) := by decide +kernel
theorem dX2_doActs_30 : decode cX2_doActs 30 = .ok (.iload 4, 2) := by decide +kernel
theorem dX2_doActs_32 : decode cX2_doActs 32 = .ok (.invokevirtual 51, 3) := by decide +kernel
theorem dX2_doActs_35 : decode cX2_doActs 35 = .ok (.ifCond .ne 5, 3) := by decide +kernel
theorem dX2_doActs_38 : decode cX2_doActs 38 = .ok (.iconst 0, 1) := by decide +kernel
theorem dX2_doActs_39 : decode cX2_doActs 39 = .ok (.ireturn, 1) := by decide +kernel
theorem dX2_doActs_40 : decode cX2_doActs 40 = .ok (.aload_n 0, 1) := by decide +kernel
theorem dX2_doActs_41 : decode cX2_doActs 41 = .ok (.getfield 9, 3) := by decide +kernel
theorem dX2_doActs_44 : decode cX2_doActs 44 = .ok (.iload 5, 2) := by decide +kernel
theorem dX2_doActs_46 : decode cX2_doActs 46 = .ok (.invokevirtual 55, 3) := by decide +kernel
theorem dX2_doActs_49 : decode cX2_doActs 49 = .ok (.istore 5, 2) := by decide +kernel
theorem dX2_doActs_51 : decode cX2_doActs 51 = .ok (.iinc 6 1, 3) := by decide +kernel
theorem dX2_doActs_54 : decode cX2_doActs 54 = .ok (.goto (-48), 3) := by decide +kernel
theorem dX2_doActs_57 : decode cX2_doActs 57 = .ok (.iconst 1, 1) := by decide +kernel
theorem dX2_doActs_58 : decode cX2_doActs 58 = .ok (.ireturn, 1) := by decide +kernel
theorem dX2_doAct_0 : decode cX2_doAct 0 = .ok (.aload_n 0, 1) := by decide +kernel
theorem dX2_doAct_1 : decode cX2_doAct 1 = .ok (.getfield 19, 3) := by decide +kernel
theorem dX2_doAct_4 : decode cX2_doAct 4 = .ok (.invokevirtual 58, 3) := by decide +kernel
theorem dX2_doAct_7 : decode cX2_doAct 7 = .ok (.ifCond .ne 11, 3) := by decide +kernel
theorem dX2_doAct_10 : decode cX2_doAct 10 = .ok (.aload_n 0, 1) := by decide +kernel
theorem dX2_doAct_11 : decode cX2_doAct 11 = .ok (.bipush 6, 2) := by decide +kernel
theorem dX2_doAct_13 : decode cX2_doAct 13 = .ok (.iload_n 2, 1) := by decide +kernel
theorem dX2_doAct_14 : decode cX2_doAct 14 = .ok (.invokevirtual 62, 3) := by decide +kernel
theorem dX2_doAct_17 : decode cX2_doAct 17 = .ok (.ireturn, 1) := by decide +kernel
theorem dX2_doAct_18 : decode cX2_doAct 18 = .ok (.aload_n 0, 1) := by decide +kernel
theorem dX2_doAct_19 : decode cX2_doAct 19 = .ok (.getfield 9, 3) := by decide +kernel
theorem dX2_doAct_22 : decode cX2_doAct 22 = .ok (.iload_n 1, 1) := by decide +kernel
theorem dX2_doAct_23 : decode cX2_doAct 23 = .ok (.invokevirtual 66, 3) := by decide +kernel
theorem dX2_doAct_26 : decode cX2_doAct 26 = .ok (.lookupswitch 141 #[(33, 106), (40, 74), (43, 125), (60, 90), (82, 66), (91, 82), (120, 98)], 66) := by decide +kernel
theorem dX2_doAct_92 : decode cX2_doAct 92 = .ok (.aload_n 0, 1) := by decide +kernel
theorem dX2_doAct_93 : decode cX2_doAct 93 = .ok (.iload_n 1, 1) := by decide +kernel
theorem dX2_doAct_94 : decode cX2_doAct 94 = .ok (.iload_n 2, 1) := by decide +kernel
theorem dX2_doAct_95 : decode cX2_doAct 95 = .ok (.iload_n 3, 1) := by decide +kernel
theorem dX2_doAct_96 : decode cX2_doAct 96 = .ok (.invokevirtual 69, 3) := by decide +kernel
theorem dX2_doAct_99 : decode cX2_doAct 99 = .ok (.ireturn, 1) := by decide +kernel
theorem dX2_doAct_100 : decode cX2_doAct 100 = .ok (.aload_n 0, 1) := by decide +kernel
theorem dX2_doAct_101 : decode cX2_doAct 101 = .ok (.iload_n 1, 1) := by decide +kernel
theorem dX2_doAct_102 : decode cX2_doAct 102 = .ok (.iload_n 2, 1) := by decide +kernel
theorem dX2_doAct_103 : decode cX2_doAct 103 = .ok (.iload_n 3, 1) := by decide +kernel
theorem dX2_doAct_104 : decode cX2_doAct 104 = .ok (.invokevirtual 72, 3) := by decide +kernel
theorem dX2_doAct_107 : decode cX2_doAct 107 = .ok (.ireturn, 1) := by decide +kernel
theorem dX2_doAct_108 : decode cX2_doAct 108 = .ok (.aload_n 0, 1) := by decide +kernel
theorem dX2_doAct_109 : decode cX2_doAct 109 = .ok (.iload_n 1, 1) := by decide +kernel
theorem dX2_doAct_110 : decode cX2_doAct 110 = .ok (.iload_n 2, 1) := by decide +kernel
theorem dX2_doAct_111 : decode cX2_doAct 111 = .ok (.iload_n 3, 1) := by decide +kernel
theorem dX2_doAct_112 : decode cX2_doAct 112 = .ok (.invokevirtual 75, 3) := by decide +kernel
theorem dX2_doAct_115 : decode cX2_doAct 115 = .ok (.ireturn, 1) := by decide +kernel
theorem dX2_doAct_116 : decode cX2_doAct 116 = .ok (.aload_n 0, 1) := by decide +kernel
theorem dX2_doAct_117 : decode cX2_doAct 117 = .ok (.iload_n 1, 1) := by decide +kernel
theorem dX2_doAct_118 : decode cX2_doAct 118 = .ok (.iload_n 2, 1) := by decide +kernel
theorem dX2_doAct_119 : decode cX2_doAct 119 = .ok (.iload_n 3, 1) := by decide +kernel
theorem dX2_doAct_120 : decode cX2_doAct 120 = .ok (.invokevirtual 78, 3) := by decide +kernel
theorem dX2_doAct_123 : decode cX2_doAct 123 = .ok (.ireturn, 1) := by decide +kernel
theorem dX2_doAct_124 : decode cX2_doAct 124 = .ok (.aload_n 0, 1) := by decide +kernel
theorem dX2_doAct_125 : decode cX2_doAct 125 = .ok (.iload_n 1, 1) := by decide +kernel
theorem dX2_doAct_126 : decode cX2_doAct 126 = .ok (.iload_n 2, 1) := by decide +kernel
theorem dX2_doAct_127 : decode cX2_doAct 127 = .ok (.iload_n 3, 1) := by decide +kernel
theorem dX2_doAct_128 : decode cX2_doAct 128 = .ok (.invokevirtual 81, 3) := by decide +kernel
theorem dX2_doAct_131 : decode cX2_doAct 131 = .ok (.ireturn, 1) := by decide +kernel
theorem dX2_doAct_132 : decode cX2_doAct 132 = .ok (.aload_n 0, 1) := by decide +kernel
theorem dX2_doAct_133 : decode cX2_doAct 133 = .ok (.getfield 19, 3) := by decide +kernel
theorem dX2_doAct_136 : decode cX2_doAct 136 = .ok (.iconst 4, 1) := by decide +kernel
theorem dX2_doAct_137 : decode cX2_doAct 137 = .ok (.iload_n 2, 1) := by decide +kernel
theorem dX2_doAct_138 : decode cX2_doAct 138 = .ok (.aload_n 0, 1) := by decide +kernel
theorem dX2_doAct_139 : decode cX2_doAct 139 = .ok (.getfield 9, 3) := by decide +kernel
theorem dX2_doAct_142 : decode cX2_doAct 142 = .ok (.iload_n 1, 1) := by decide +kernel
theorem dX2_doAct_143 : decode cX2_doAct 143 = .ok (.invokevirtual 84, 3) := by decide +kernel
theorem dX2_doAct_146 : decode cX2_doAct 146 = .ok (.invokevirtual 87, 3) := by decide +kernel
theorem dX2_doAct_149 : decode cX2_doAct 149 = .ok (.iconst 0, 1) := by decide +kernel
theorem dX2_doAct_150 : decode cX2_doAct 150 = .ok (.ireturn, 1) := by decide +kernel
theorem dX2_doAct_151 : decode cX2_doAct 151 = .ok (.aload_n 0, 1) := by decide +kernel
theorem dX2_doAct_152 : decode cX2_doAct 152 = .ok (.getfield 15, 3) := by decide +kernel
theorem dX2_doAct_155 : decode cX2_doAct 155 = .ok (.aload_n 0, 1) := by decide +kernel
theorem dX2_doAct_156 : decode cX2_doAct 156 = .ok (.getfield 19, 3) := by decide +kernel
theorem dX2_doAct_159 : decode cX2_doAct 159 = .ok (.invokevirtual 91, 3) := by decide +kernel
theorem dX2_doAct_162 : decode cX2_doAct 162 = .ok (.invokevirtual 94, 3) := by decide +kernel
theorem dX2_doAct_165 : decode cX2_doAct 165 = .ok (.iconst 1, 1) := by decide +kernel
theorem dX2_doAct_166 : decode cX2_doAct 166 = .ok (.ireturn, 1) := by decide +kernel
theorem dX2_doAct_167 : decode cX2_doAct 167 = .ok (.iload_n 2, 1) := by decide +kernel
theorem dX2_doAct_168 : decode cX2_doAct 168 = .ok (.iconst (-1), 1) := by decide +kernel
theorem dX2_doAct_169 : decode cX2_doAct 169 = .ok (.if_icmp .ne 12, 3) := by decide +kernel
theorem dX2_doAct_172 : decode cX2_doAct 172 = .ok (.aload_n 0, 1) := by decide +kernel
theorem dX2_doAct_173 : decode cX2_doAct 173 = .ok (.iconst 3, 1) := by decide +kernel
theorem dX2_doAct_174 : decode cX2_doAct 174 = .ok (.iload_n 2, 1) := by decide +kernel
theorem dX2_doAct_175 : decode cX2_doAct 175 = .ok (.invokevirtual 62, 3) := by decide +kernel
theorem dX2_doAct_178 : decode cX2_doAct 178 = .ok (.goto 16, 3) := by decide +kernel
theorem dX2_doAct_181 : decode cX2_doAct 181 = .ok (.aload_n 0, 1) := by decide +kernel
theorem dX2_doAct_182 : decode cX2_doAct 182 = .ok (.aload_n 0, 1) := by decide +kernel
theorem dX2_doAct_183 : decode cX2_doAct 183 = .ok (.getfield 9, 3) := by decide +kernel
theorem dX2_doAct_186 : decode cX2_doAct 186 = .ok (.iload_n 1, 1) := by decide +kernel
theorem dX2_doAct_187 : decode cX2_doAct 187 = .ok (.invokevirtual 66, 3) := by decide +kernel
theorem dX2_doAct_190 : decode cX2_doAct 190 = .ok (.iload_n 2, 1) := by decide +kernel
theorem dX2_doAct_191 : decode cX2_doAct 191 = .ok (.invokevirtual 97, 3) := by decide +kernel
theorem dX2_doAct_194 : decode cX2_doAct 194 = .ok (.ireturn, 1) := by decide +kernel
theorem dX2_befalls_0 : decode cX2_befalls 0 = .ok (.aload_n 0, 1) := by decide +kernel
theorem dX2_befalls_1 : decode cX2_befalls 1 = .ok (.getfield 19, 3) := by decide +kernel
theorem dX2_befalls_4 : decode cX2_befalls 4 = .ok (.iload_n 1, 1) := by decide +kernel
theorem dX2_befalls_5 : decode cX2_befalls 5 = .ok (.iload_n 2, 1) := by decide +kernel
theorem dX2_befalls_6 : decode cX2_befalls 6 = .ok (.iconst (-1), 1) := by decide +kernel
theorem dX2_befalls_7 : decode cX2_befalls 7 = .ok (.invokevirtual 87, 3) := by decide +kernel
theorem dX2_befalls_10 : decode cX2_befalls 10 = .ok (.iconst 0, 1) := by decide +kernel
theorem dX2_befalls_11 : decode cX2_befalls 11 = .ok (.ireturn, 1) := by decide +kernel
theorem dX2_doFirstPart_0 : decode cX2_doFirstPart 0 = .ok (.aload_n 0, 1) := by decide +kernel
theorem dX2_doFirstPart_1 : decode cX2_doFirstPart 1 = .ok (.iload_n 1, 1) := by decide +kernel
theorem dX2_doFirstPart_2 : decode cX2_doFirstPart 2 = .ok (.iconst 1, 1) := by decide +kernel
theorem dX2_doFirstPart_3 : decode cX2_doFirstPart 3 = .ok (.iadd, 1) := by decide +kernel
theorem dX2_doFirstPart_4 : decode cX2_doFirstPart 4 = .ok (.aload_n 0, 1) := by decide +kernel
theorem dX2_doFirstPart_5 : decode cX2_doFirstPart 5 = .ok (.getfield 9, 3) := by decide +kernel
theorem dX2_doFirstPart_8 : decode cX2_doFirstPart 8 = .ok (.iload_n 1, 1) := by decide +kernel
theorem dX2_doFirstPart_9 : decode cX2_doFirstPart 9 = .ok (.invokevirtual 100, 3) := by decide +kernel
theorem dX2_doFirstPart_12 : decode cX2_doFirstPart 12 = .ok (.iload_n 2, 1) := by decide +kernel
theorem dX2_doFirstPart_13 : decode cX2_doFirstPart 13 = .ok (.iload_n 3, 1) := by decide +kernel
theorem dX2_doFirstPart_14 : decode cX2_doFirstPart 14 = .ok (.iconst 1, 1) := by decide +kernel
theorem dX2_doFirstPart_15 : decode cX2_doFirstPart 15 = .ok (.iadd, 1) := by decide +kernel
theorem dX2_doFirstPart_16 : decode cX2_doFirstPart 16 = .ok (.invokevirtual 34, 3) := by decide +kernel
theorem dX2_doFirstPart_19 : decode cX2_doFirstPart 19 = .ok (.ireturn, 1) := by decide +kernel
theorem dX2_doSecondPart_0 : decode cX2_doSecondPart 0 = .ok (.aload_n 0, 1) := by decide +kernel
theorem dX2_doSecondPart_1 : decode cX2_doSecondPart 1 = .ok (.getfield 19, 3) := by decide +kernel
theorem dX2_doSecondPart_4 : decode cX2_doSecondPart 4 = .ok (.invokevirtual 103, 3) := by decide +kernel
theorem dX2_doSecondPart_7 : decode cX2_doSecondPart 7 = .ok (.aload_n 0, 1) := by decide +kernel
theorem dX2_doSecondPart_8 : decode cX2_doSecondPart 8 = .ok (.aload_n 0, 1) := by decide +kernel
theorem dX2_doSecondPart_9 : decode cX2_doSecondPart 9 = .ok (.getfield 9, 3) := by decide +kernel
theorem dX2_doSecondPart_12 : decode cX2_doSecondPart 12 = .ok (.iload_n 1, 1) := by decide +kernel
theorem dX2_doSecondPart_13 : decode cX2_doSecondPart 13 = .ok (.invokevirtual 100, 3) := by decide +kernel
theorem dX2_doSecondPart_16 : decode cX2_doSecondPart 16 = .ok (.aload_n 0, 1) := by decide +kernel
theorem dX2_doSecondPart_17 : decode cX2_doSecondPart 17 = .ok (.getfield 9, 3) := by decide +kernel
theorem dX2_doSecondPart_20 : decode cX2_doSecondPart 20 = .ok (.iload_n 1, 1) := by decide +kernel
theorem dX2_doSecondPart_21 : decode cX2_doSecondPart 21 = .ok (.invokevirtual 55, 3) := by decide +kernel
theorem dX2_doSecondPart_24 : decode cX2_doSecondPart 24 = .ok (.iload_n 2, 1) := by decide +kernel
theorem dX2_doSecondPart_25 : decode cX2_doSecondPart 25 = .ok (.iload_n 3, 1) := by decide +kernel
theorem dX2_doSecondPart_26 : decode cX2_doSecondPart 26 = .ok (.iconst 1, 1) := by decide +kernel
theorem dX2_doSecondPart_27 : decode cX2_doSecondPart 27 = .ok (.iadd, 1) := by decide +kernel
theorem dX2_doSecondPart_28 : decode cX2_doSecondPart 28 = .ok (.invokevirtual 34, 3) := by decide +kernel
theorem dX2_doSecondPart_31 : decode cX2_doSecondPart 31 = .ok (.ireturn, 1) := by decide +kernel
theorem dX2_goInto_0 : decode cX2_goInto 0 = .ok (.aload_n 0, 1) := by decide +kernel
theorem dX2_goInto_1 : decode cX2_goInto 1 = .ok (.getfield 9, 3) := by decide +kernel
theorem dX2_goInto_4 : decode cX2_goInto 4 = .ok (.iload_n 1, 1) := by decide +kernel
theorem dX2_goInto_5 : decode cX2_goInto 5 = .ok (.invokevirtual 84, 3) := by decide +kernel
theorem dX2_goInto_8 : decode cX2_goInto 8 = .ok (.istore 4, 2) := by decide +kernel
theorem dX2_goInto_10 : decode cX2_goInto 10 = .ok (.aload_n 0, 1) := by decide +kernel
theorem dX2_goInto_11 : decode cX2_goInto 11 = .ok (.getfield 15, 3) := by decide +kernel
theorem dX2_goInto_14 : decode cX2_goInto 14 = .ok (.iload 4, 2) := by decide +kernel
theorem dX2_goInto_16 : decode cX2_goInto 16 = .ok (.invokevirtual 106, 3) := by decide +kernel
theorem dX2_goInto_19 : decode cX2_goInto 19 = .ok (.ifCond .ne 10, 3) := by decide +kernel
theorem dX2_goInto_22 : decode cX2_goInto 22 = .ok (.aload_n 0, 1) := by decide +kernel
theorem dX2_goInto_23 : decode cX2_goInto 23 = .ok (.iconst 1, 1) := by decide +kernel
theorem dX2_goInto_24 : decode cX2_goInto 24 = .ok (.iload_n 2, 1) := by decide +kernel
theorem dX2_goInto_25 : decode cX2_goInto 25 = .ok (.invokevirtual 62, 3) := by decide +kernel
theorem dX2_goInto_28 : decode cX2_goInto 28 = .ok (.ireturn, 1) := by decide +kernel
theorem dX2_goInto_29 : decode cX2_goInto 29 = .ok (.aload_n 0, 1) := by decide +kernel
theorem dX2_goInto_30 : decode cX2_goInto 30 = .ok (.getfield 15, 3) := by decide +kernel
theorem dX2_goInto_33 : decode cX2_goInto 33 = .ok (.iload 4, 2) := by decide +kernel
theorem dX2_goInto_35 : decode cX2_goInto 35 = .ok (.invokevirtual 110, 3) := by decide +kernel
theorem dX2_goInto_38 : decode cX2_goInto 38 = .ok (.aload_n 0, 1) := by decide +kernel
theorem dX2_goInto_39 : decode cX2_goInto 39 = .ok (.getfield 19, 3) := by decide +kernel
theorem dX2_goInto_42 : decode cX2_goInto 42 = .ok (.iload 4, 2) := by decide +kernel
theorem dX2_goInto_44 : decode cX2_goInto 44 = .ok (.invokevirtual 113, 3) := by decide +kernel
theorem dX2_goInto_47 : decode cX2_goInto 47 = .ok (.aload_n 0, 1) := by decide +kernel
theorem dX2_goInto_48 : decode cX2_goInto 48 = .ok (.getfield 15, 3) := by decide +kernel
theorem dX2_goInto_51 : decode cX2_goInto 51 = .ok (.iload 4, 2) := by decide +kernel
theorem dX2_goInto_53 : decode cX2_goInto 53 = .ok (.aload_n 0, 1) := by decide +kernel
theorem dX2_goInto_54 : decode cX2_goInto 54 = .ok (.getfield 15, 3) := by decide +kernel
theorem dX2_goInto_57 : decode cX2_goInto 57 = .ok (.iload 4, 2) := by decide +kernel
theorem dX2_goInto_59 : decode cX2_goInto 59 = .ok (.invokevirtual 116, 3) := by decide +kernel
theorem dX2_goInto_62 : decode cX2_goInto 62 = .ok (.invokevirtual 119, 3) := by decide +kernel
theorem dX2_goInto_65 : decode cX2_goInto 65 = .ok (.ifCond .eq 13, 3) := by decide +kernel
theorem dX2_goInto_68 : decode cX2_goInto 68 = .ok (.aload_n 0, 1) := by decide +kernel
theorem dX2_goInto_69 : decode cX2_goInto 69 = .ok (.iconst 2, 1) := by decide +kernel
theorem dX2_goInto_70 : decode cX2_goInto 70 = .ok (.iload 4, 2) := by decide +kernel
theorem dX2_goInto_72 : decode cX2_goInto 72 = .ok (.invokevirtual 62, 3) := by decide +kernel
theorem dX2_goInto_75 : decode cX2_goInto 75 = .ok (.goto 11, 3) := by decide +kernel
theorem dX2_goInto_78 : decode cX2_goInto 78 = .ok (.aload_n 0, 1) := by decide +kernel
theorem dX2_goInto_79 : decode cX2_goInto 79 = .ok (.iload_n 1, 1) := by decide +kernel
theorem dX2_goInto_80 : decode cX2_goInto 80 = .ok (.iload 4, 2) := by decide +kernel
theorem dX2_goInto_82 : decode cX2_goInto 82 = .ok (.iload_n 3, 1) := by decide +kernel
theorem dX2_goInto_83 : decode cX2_goInto 83 = .ok (.invokevirtual 122, 3) := by decide +kernel
theorem dX2_goInto_86 : decode cX2_goInto 86 = .ok (.istore 5, 2) := by decide +kernel
theorem dX2_goInto_88 : decode cX2_goInto 88 = .ok (.aload_n 0, 1) := by decide +kernel
theorem dX2_goInto_89 : decode cX2_goInto 89 = .ok (.getfield 19, 3) := by decide +kernel
theorem dX2_goInto_92 : decode cX2_goInto 92 = .ok (.iload 4, 2) := by decide +kernel
theorem dX2_goInto_94 : decode cX2_goInto 94 = .ok (.invokevirtual 125, 3) := by decide +kernel
theorem dX2_goInto_97 : decode cX2_goInto 97 = .ok (.aload_n 0, 1) := by decide +kernel
theorem dX2_goInto_98 : decode cX2_goInto 98 = .ok (.getfield 15, 3) := by decide +kernel
theorem dX2_goInto_101 : decode cX2_goInto 101 = .ok (.iload 4, 2) := by decide +kernel
theorem dX2_goInto_103 : decode cX2_goInto 103 = .ok (.aload_n 0, 1) := by decide +kernel
theorem dX2_goInto_104 : decode cX2_goInto 104 = .ok (.getfield 15, 3) := by decide +kernel
theorem dX2_goInto_107 : decode cX2_goInto 107 = .ok (.iload 4, 2) := by decide +kernel
theorem dX2_goInto_109 : decode cX2_goInto 109 = .ok (.invokevirtual 116, 3) := by decide +kernel
theorem dX2_goInto_112 : decode cX2_goInto 112 = .ok (.iconst 1, 1) := by decide +kernel
theorem dX2_goInto_113 : decode cX2_goInto 113 = .ok (.isub, 1) := by decide +kernel
theorem dX2_goInto_114 : decode cX2_goInto 114 = .ok (.invokevirtual 119, 3) := by decide +kernel
theorem dX2_goInto_117 : decode cX2_goInto 117 = .ok (.pop, 1) := by decide +kernel
theorem dX2_goInto_118 : decode cX2_goInto 118 = .ok (.iload 5, 2) := by decide +kernel
theorem dX2_goInto_120 : decode cX2_goInto 120 = .ok (.ireturn, 1) := by decide +kernel
theorem dX2_doOrElse_0 : decode cX2_doOrElse 0 = .ok (.aload_n 0, 1) := by decide +kernel
theorem dX2_doOrElse_1 : decode cX2_doOrElse 1 = .ok (.iload_n 1, 1) := by decide +kernel
theorem dX2_doOrElse_2 : decode cX2_doOrElse 2 = .ok (.iload_n 2, 1) := by decide +kernel
theorem dX2_doOrElse_3 : decode cX2_doOrElse 3 = .ok (.iload_n 3, 1) := by decide +kernel
theorem dX2_doOrElse_4 : decode cX2_doOrElse 4 = .ok (.invokevirtual 122, 3) := by decide +kernel
theorem dX2_doOrElse_7 : decode cX2_doOrElse 7 = .ok (.ifCond .eq 5, 3) := by decide +kernel
theorem dX2_doOrElse_10 : decode cX2_doOrElse 10 = .ok (.iconst 1, 1) := by decide +kernel
theorem dX2_doOrElse_11 : decode cX2_doOrElse 11 = .ok (.ireturn, 1) := by decide +kernel
theorem dX2_doOrElse_12 : decode cX2_doOrElse 12 = .ok (.aload_n 0, 1) := by decide +kernel
theorem dX2_doOrElse_13 : decode cX2_doOrElse 13 = .ok (.getfield 19, 3) := by decide +kernel
theorem dX2_doOrElse_16 : decode cX2_doOrElse 16 = .ok (.iconst 0, 1) := by decide +kernel
theorem dX2_doOrElse_17 : decode cX2_doOrElse 17 = .ok (.invokevirtual 47, 3) := by decide +kernel
theorem dX2_doOrElse_20 : decode cX2_doOrElse 20 = .ok (.iconst 1, 1) := by decide +kernel
theorem dX2_doOrElse_21 : decode cX2_doOrElse 21 = .ok (.iconst 3, 1) := by decide +kernel
theorem dX2_doOrElse_22 : decode cX2_doOrElse 22 = .ok (.invokestatic 128, 3) := by decide +kernel
theorem dX2_doOrElse_25 : decode cX2_doOrElse 25 = .ok (.ifCond .eq 17, 3) := by decide +kernel
theorem dX2_doOrElse_28 : decode cX2_doOrElse 28 = .ok (.aload_n 0, 1) := by decide +kernel
theorem dX2_doOrElse_29 : decode cX2_doOrElse 29 = .ok (.iload_n 1, 1) := by decide +kernel
theorem dX2_doOrElse_30 : decode cX2_doOrElse 30 = .ok (.iload_n 2, 1) := by decide +kernel
theorem dX2_doOrElse_31 : decode cX2_doOrElse 31 = .ok (.iload_n 3, 1) := by decide +kernel
theorem dX2_doOrElse_32 : decode cX2_doOrElse 32 = .ok (.invokevirtual 131, 3) := by decide +kernel
theorem dX2_doOrElse_35 : decode cX2_doOrElse 35 = .ok (.ifCond .eq 7, 3) := by decide +kernel
theorem dX2_doOrElse_38 : decode cX2_doOrElse 38 = .ok (.iconst 1, 1) := by decide +kernel
theorem dX2_doOrElse_39 : decode cX2_doOrElse 39 = .ok (.goto 4, 3) := by decide +kernel
theorem dX2_doOrElse_42 : decode cX2_doOrElse 42 = .ok (.iconst 0, 1) := by decide +kernel
theorem dX2_doOrElse_43 : decode cX2_doOrElse 43 = .ok (.ireturn, 1) := by decide +kernel
theorem dX2_doAndHear_0 : decode cX2_doAndHear 0 = .ok (.aload_n 0, 1) := by decide +kernel
theorem dX2_doAndHear_1 : decode cX2_doAndHear 1 = .ok (.iload_n 1, 1) := by decide +kernel
theorem dX2_doAndHear_2 : decode cX2_doAndHear 2 = .ok (.iload_n 2, 1) := by decide +kernel
theorem dX2_doAndHear_3 : decode cX2_doAndHear 3 = .ok (.iload_n 3, 1) := by decide +kernel
theorem dX2_doAndHear_4 : decode cX2_doAndHear 4 = .ok (.invokevirtual 122, 3) := by decide +kernel
theorem dX2_doAndHear_7 : decode cX2_doAndHear 7 = .ok (.ifCond .eq 5, 3) := by decide +kernel
theorem dX2_doAndHear_10 : decode cX2_doAndHear 10 = .ok (.iconst 1, 1) := by decide +kernel
theorem dX2_doAndHear_11 : decode cX2_doAndHear 11 = .ok (.ireturn, 1) := by decide +kernel
theorem dX2_doAndHear_12 : decode cX2_doAndHear 12 = .ok (.aload_n 0, 1) := by decide +kernel
theorem dX2_doAndHear_13 : decode cX2_doAndHear 13 = .ok (.getfield 19, 3) := by decide +kernel
theorem dX2_doAndHear_16 : decode cX2_doAndHear 16 = .ok (.iconst 0, 1) := by decide +kernel
theorem dX2_doAndHear_17 : decode cX2_doAndHear 17 = .ok (.invokevirtual 47, 3) := by decide +kernel
theorem dX2_doAndHear_20 : decode cX2_doAndHear 20 = .ok (.istore 4, 2) := by decide +kernel
theorem dX2_doAndHear_22 : decode cX2_doAndHear 22 = .ok (.iload 4, 2) := by decide +kernel
theorem dX2_doAndHear_24 : decode cX2_doAndHear 24 = .ok (.iconst 4, 1) := by decide +kernel
theorem dX2_doAndHear_25 : decode cX2_doAndHear 25 = .ok (.if_icmp .eq 11, 3) := by decide +kernel
theorem dX2_doAndHear_28 : decode cX2_doAndHear 28 = .ok (.iload 4, 2) := by decide +kernel
theorem dX2_doAndHear_30 : decode cX2_doAndHear 30 = .ok (.iconst 5, 1) := by decide +kernel
theorem dX2_doAndHear_31 : decode cX2_doAndHear 31 = .ok (.if_icmp .eq 5, 3) := by decide +kernel
theorem dX2_doAndHear_34 : decode cX2_doAndHear 34 = .ok (.iconst 0, 1) := by decide +kernel
theorem dX2_doAndHear_35 : decode cX2_doAndHear 35 = .ok (.ireturn, 1) := by decide +kernel
theorem dX2_doAndHear_36 : decode cX2_doAndHear 36 = .ok (.aload_n 0, 1) := by decide +kernel
theorem dX2_doAndHear_37 : decode cX2_doAndHear 37 = .ok (.getfield 15, 3) := by decide +kernel
theorem dX2_doAndHear_40 : decode cX2_doAndHear 40 = .ok (.aload_n 0, 1) := by decide +kernel
theorem dX2_doAndHear_41 : decode cX2_doAndHear 41 = .ok (.getfield 19, 3) := by decide +kernel
theorem dX2_doAndHear_44 : decode cX2_doAndHear 44 = .ok (.iload 4, 2) := by decide +kernel
theorem dX2_doAndHear_46 : decode cX2_doAndHear 46 = .ok (.iconst 4, 1) := by decide +kernel
theorem dX2_doAndHear_47 : decode cX2_doAndHear 47 = .ok (.if_icmp .ne 7, 3) := by decide +kernel
theorem dX2_doAndHear_50 : decode cX2_doAndHear 50 = .ok (.iconst 2, 1) := by decide +kernel
theorem dX2_doAndHear_51 : decode cX2_doAndHear 51 = .ok (.goto 4, 3) := by decide +kernel
theorem dX2_doAndHear_54 : decode cX2_doAndHear 54 = .ok (.iconst 3, 1) := by decide +kernel
theorem dX2_doAndHear_55 : decode cX2_doAndHear 55 = .ok (.invokevirtual 47, 3) := by decide +kernel
theorem dX2_doAndHear_58 : decode cX2_doAndHear 58 = .ok (.invokevirtual 94, 3) := by decide +kernel
theorem dX2_doAndHear_61 : decode cX2_doAndHear 61 = .ok (.aload_n 0, 1) := by decide +kernel
theorem dX2_doAndHear_62 : decode cX2_doAndHear 62 = .ok (.iload_n 1, 1) := by decide +kernel
theorem dX2_doAndHear_63 : decode cX2_doAndHear 63 = .ok (.iload_n 2, 1) := by decide +kernel
theorem dX2_doAndHear_64 : decode cX2_doAndHear 64 = .ok (.iload_n 3, 1) := by decide +kernel
theorem dX2_doAndHear_65 : decode cX2_doAndHear 65 = .ok (.invokevirtual 131, 3) := by decide +kernel
theorem dX2_doAndHear_68 : decode cX2_doAndHear 68 = .ok (.ireturn, 1) := by decide +kernel
theorem dX2_doAndReport_0 : decode cX2_doAndReport 0 = .ok (.aload_n 0, 1) := by decide +kernel
theorem dX2_doAndReport_1 : decode cX2_doAndReport 1 = .ok (.iload_n 1, 1) := by decide +kernel
theorem dX2_doAndReport_2 : decode cX2_doAndReport 2 = .ok (.iload_n 2, 1) := by decide +kernel
theorem dX2_doAndReport_3 : decode cX2_doAndReport 3 = .ok (.iload_n 3, 1) := by decide +kernel
theorem dX2_doAndReport_4 : decode cX2_doAndReport 4 = .ok (.invokevirtual 122, 3) := by decide +kernel
theorem dX2_doAndReport_7 : decode cX2_doAndReport 7 = .ok (.ifCond .eq 5, 3) := by decide +kernel
theorem dX2_doAndReport_10 : decode cX2_doAndReport 10 = .ok (.iconst 1, 1) := by decide +kernel
theorem dX2_doAndReport_11 : decode cX2_doAndReport 11 = .ok (.ireturn, 1) := by decide +kernel
theorem dX2_doAndReport_12 : decode cX2_doAndReport 12 = .ok (.aload_n 0, 1) := by decide +kernel
theorem dX2_doAndReport_13 : decode cX2_doAndReport 13 = .ok (.getfield 19, 3) := by decide +kernel
theorem dX2_doAndReport_16 : decode cX2_doAndReport 16 = .ok (.iconst 0, 1) := by decide +kernel
theorem dX2_doAndReport_17 : decode cX2_doAndReport 17 = .ok (.invokevirtual 47, 3) := by decide +kernel
theorem dX2_doAndReport_20 : decode cX2_doAndReport 20 = .ok (.bipush 6, 2) := by decide +kernel
theorem dX2_doAndReport_22 : decode cX2_doAndReport 22 = .ok (.if_icmp .eq 10, 3) := by decide +kernel
theorem dX2_doAndReport_25 : decode cX2_doAndReport 25 = .ok (.aload_n 0, 1) := by decide +kernel
theorem dX2_doAndReport_26 : decode cX2_doAndReport 26 = .ok (.getfield 19, 3) := by decide +kernel
theorem dX2_doAndReport_29 : decode cX2_doAndReport 29 = .ok (.invokevirtual 134, 3) := by decide +kernel
theorem dX2_doAndReport_32 : decode cX2_doAndReport 32 = .ok (.iconst 0, 1) := by decide +kernel
theorem dX2_doAndReport_33 : decode cX2_doAndReport 33 = .ok (.ireturn, 1) := by decide +kernel
theorem dX2_doSoOften_0 : decode cX2_doSoOften 0 = .ok (.aload_n 0, 1) := by decide +kernel
theorem dX2_doSoOften_1 : decode cX2_doSoOften 1 = .ok (.getfield 9, 3) := by decide +kernel
theorem dX2_doSoOften_4 : decode cX2_doSoOften 4 = .ok (.iload_n 1, 1) := by decide +kernel
theorem dX2_doSoOften_5 : decode cX2_doSoOften 5 = .ok (.invokevirtual 84, 3) := by decide +kernel
theorem dX2_doSoOften_8 : decode cX2_doSoOften 8 = .ok (.istore 4, 2) := by decide +kernel
theorem dX2_doSoOften_10 : decode cX2_doSoOften 10 = .ok (.iconst 0, 1) := by decide +kernel
theorem dX2_doSoOften_11 : decode cX2_doSoOften 11 = .ok (.istore 5, 2) := by decide +kernel
theorem dX2_doSoOften_13 : decode cX2_doSoOften 13 = .ok (.iload 5, 2) := by decide +kernel
theorem dX2_doSoOften_15 : decode cX2_doSoOften 15 = .ok (.iload 4, 2) := by decide +kernel
theorem dX2_doSoOften_17 : decode cX2_doSoOften 17 = .ok (.if_icmp .ge 21, 3) := by decide +kernel
theorem dX2_doSoOften_20 : decode cX2_doSoOften 20 = .ok (.aload_n 0, 1) := by decide +kernel
theorem dX2_doSoOften_21 : decode cX2_doSoOften 21 = .ok (.iload_n 1, 1) := by decide +kernel
theorem dX2_doSoOften_22 : decode cX2_doSoOften 22 = .ok (.iload_n 2, 1) := by decide +kernel
theorem dX2_doSoOften_23 : decode cX2_doSoOften 23 = .ok (.iload_n 3, 1) := by decide +kernel
theorem dX2_doSoOften_24 : decode cX2_doSoOften 24 = .ok (.invokevirtual 122, 3) := by decide +kernel
theorem dX2_doSoOften_27 : decode cX2_doSoOften 27 = .ok (.ifCond .ne 5, 3) := by decide +kernel
theorem dX2_doSoOften_30 : decode cX2_doSoOften 30 = .ok (.iconst 0, 1) := by decide +kernel
theorem dX2_doSoOften_31 : decode cX2_doSoOften 31 = .ok (.ireturn, 1) := by decide +kernel
theorem dX2_doSoOften_32 : decode cX2_doSoOften 32 = .ok (.iinc 5 1, 3) := by decide +kernel
theorem dX2_doSoOften_35 : decode cX2_doSoOften 35 = .ok (.goto (-22), 3) := by decide +kernel
theorem dX2_doSoOften_38 : decode cX2_doSoOften 38 = .ok (.iconst 1, 1) := by decide +kernel
theorem dX2_doSoOften_39 : decode cX2_doSoOften 39 = .ok (.ireturn, 1) := by decide +kernel
theorem dX2_doInRoom_0 : decode cX2_doInRoom 0 = .ok (.iload_n 1, 1) := by decide +kernel
theorem dX2_doInRoom_1 : decode cX2_doInRoom 1 = .ok (.lookupswitch 86 #[(107, 45), (108, 35), (119, 55)], 35) := by decide +kernel
theorem dX2_doInRoom_36 : decode cX2_doInRoom 36 = .ok (.aload_n 0, 1) := by decide +kernel
theorem dX2_doInRoom_37 : decode cX2_doInRoom 37 = .ok (.getfield 15, 3) := by decide +kernel
theorem dX2_doInRoom_40 : decode cX2_doInRoom 40 = .ok (.iload_n 2, 1) := by decide +kernel
theorem dX2_doInRoom_41 : decode cX2_doInRoom 41 = .ok (.invokevirtual 137, 3) := by decide +kernel
theorem dX2_doInRoom_44 : decode cX2_doInRoom 44 = .ok (.iconst 1, 1) := by decide +kernel
theorem dX2_doInRoom_45 : decode cX2_doInRoom 45 = .ok (.ireturn, 1) := by decide +kernel
theorem dX2_doInRoom_46 : decode cX2_doInRoom 46 = .ok (.aload_n 0, 1) := by decide +kernel
theorem dX2_doInRoom_47 : decode cX2_doInRoom 47 = .ok (.getfield 15, 3) := by decide +kernel
theorem dX2_doInRoom_50 : decode cX2_doInRoom 50 = .ok (.iload_n 2, 1) := by decide +kernel
theorem dX2_doInRoom_51 : decode cX2_doInRoom 51 = .ok (.invokevirtual 140, 3) := by decide +kernel
theorem dX2_doInRoom_54 : decode cX2_doInRoom 54 = .ok (.iconst 1, 1) := by decide +kernel
theorem dX2_doInRoom_55 : decode cX2_doInRoom 55 = .ok (.ireturn, 1) := by decide +kernel
theorem dX2_doInRoom_56 : decode cX2_doInRoom 56 = .ok (.aload_n 0, 1) := by decide +kernel
theorem dX2_doInRoom_57 : decode cX2_doInRoom 57 = .ok (.getfield 15, 3) := by decide +kernel
theorem dX2_doInRoom_60 : decode cX2_doInRoom 60 = .ok (.iload_n 2, 1) := by decide +kernel
theorem dX2_doInRoom_61 : decode cX2_doInRoom 61 = .ok (.aload_n 0, 1) := by decide +kernel
theorem dX2_doInRoom_62 : decode cX2_doInRoom 62 = .ok (.getfield 15, 3) := by decide +kernel
theorem dX2_doInRoom_65 : decode cX2_doInRoom 65 = .ok (.iload_n 2, 1) := by decide +kernel
theorem dX2_doInRoom_66 : decode cX2_doInRoom 66 = .ok (.iconst 3, 1) := by decide +kernel
theorem dX2_doInRoom_67 : decode cX2_doInRoom 67 = .ok (.invokevirtual 143, 3) := by decide +kernel
theorem dX2_doInRoom_70 : decode cX2_doInRoom 70 = .ok (.invokevirtual 119, 3) := by decide +kernel
theorem dX2_doInRoom_73 : decode cX2_doInRoom 73 = .ok (.ifCond .eq 12, 3) := by decide +kernel
theorem dX2_doInRoom_76 : decode cX2_doInRoom 76 = .ok (.aload_n 0, 1) := by decide +kernel
theorem dX2_doInRoom_77 : decode cX2_doInRoom 77 = .ok (.iconst 2, 1) := by decide +kernel
theorem dX2_doInRoom_78 : decode cX2_doInRoom 78 = .ok (.iload_n 2, 1) := by decide +kernel
theorem dX2_doInRoom_79 : decode cX2_doInRoom 79 = .ok (.invokevirtual 62, 3) := by decide +kernel
theorem dX2_doInRoom_82 : decode cX2_doInRoom 82 = .ok (.goto 4, 3) := by decide +kernel
theorem dX2_doInRoom_85 : decode cX2_doInRoom 85 = .ok (.iconst 1, 1) := by decide +kernel
theorem dX2_doInRoom_86 : decode cX2_doInRoom 86 = .ok (.ireturn, 1) := by decide +kernel
theorem dX2_doInRoom_87 : decode cX2_doInRoom 87 = .ok (.aload_n 0, 1) := by decide +kernel
theorem dX2_doInRoom_88 : decode cX2_doInRoom 88 = .ok (.getfield 15, 3) := by decide +kernel
theorem dX2_doInRoom_91 : decode cX2_doInRoom 91 = .ok (.iload_n 2, 1) := by decide +kernel
theorem dX2_doInRoom_92 : decode cX2_doInRoom 92 = .ok (.iconst 5, 1) := by decide +kernel
theorem dX2_doInRoom_93 : decode cX2_doInRoom 93 = .ok (.invokevirtual 143, 3) := by decide +kernel
theorem dX2_doInRoom_96 : decode cX2_doInRoom 96 = .ok (.ifCond .ne 10, 3) := by decide +kernel
theorem dX2_doInRoom_99 : decode cX2_doInRoom 99 = .ok (.aload_n 0, 1) := by decide +kernel
theorem dX2_doInRoom_100 : decode cX2_doInRoom 100 = .ok (.iconst 3, 1) := by decide +kernel
theorem dX2_doInRoom_101 : decode cX2_doInRoom 101 = .ok (.iload_n 2, 1) := by decide +kernel
theorem dX2_doInRoom_102 : decode cX2_doInRoom 102 = .ok (.invokevirtual 62, 3) := by decide +kernel
theorem dX2_doInRoom_105 : decode cX2_doInRoom 105 = .ok (.ireturn, 1) := by decide +kernel
theorem dX2_doInRoom_106 : decode cX2_doInRoom 106 = .ok (.aload_n 0, 1) := by decide +kernel
theorem dX2_doInRoom_107 : decode cX2_doInRoom 107 = .ok (.getfield 15, 3) := by decide +kernel
theorem dX2_doInRoom_110 : decode cX2_doInRoom 110 = .ok (.aload_n 0, 1) := by decide +kernel
theorem dX2_doInRoom_111 : decode cX2_doInRoom 111 = .ok (.getfield 15, 3) := by decide +kernel
theorem dX2_doInRoom_114 : decode cX2_doInRoom 114 = .ok (.iload_n 2, 1) := by decide +kernel
theorem dX2_doInRoom_115 : decode cX2_doInRoom 115 = .ok (.invokevirtual 147, 3) := by decide +kernel
theorem dX2_doInRoom_118 : decode cX2_doInRoom 118 = .ok (.invokevirtual 94, 3) := by decide +kernel
theorem dX2_doInRoom_121 : decode cX2_doInRoom 121 = .ok (.iconst 1, 1) := by decide +kernel
theorem dX2_doInRoom_122 : decode cX2_doInRoom 122 = .ok (.ireturn, 1) := by decide +kernel
theorem dX3_init_0 : decode cX3_init 0 = .ok (.aload_n 0, 1) := by decide +kernel
theorem dX3_init_1 : decode cX3_init 1 = .ok (.invokespecial 3, 3) := by decide +kernel
theorem dX3_init_4 : decode cX3_init 4 = .ok (.aload_n 0, 1) := by decide +kernel
theorem dX3_init_5 : decode cX3_init 5 = .ok (.bipush 100, 2) := by decide +kernel
theorem dX3_init_7 : decode cX3_init 7 = .ok (.newarray .int, 2) := by decide +kernel
theorem dX3_init_9 : decode cX3_init 9 = .ok (.putfield 9, 3) := by decide +kernel
theorem dX3_init_12 : decode cX3_init 12 = .ok (.aload_n 0, 1) := by decide +kernel
theorem dX3_init_13 : decode cX3_init 13 = .ok (.bipush 100, 2) := by decide +kernel
theorem dX3_init_15 : decode cX3_init 15 = .ok (.newarray .int, 2) := by decide +kernel
theorem dX3_init_17 : decode cX3_init 17 = .ok (.putfield 15, 3) := by decide +kernel
theorem dX3_init_20 : decode cX3_init 20 = .ok (.aload_n 0, 1) := by decide +kernel
theorem dX3_init_21 : decode cX3_init 21 = .ok (.bipush 100, 2) := by decide +kernel
theorem dX3_init_23 : decode cX3_init 23 = .ok (.newarray .int, 2) := by decide +kernel
theorem dX3_init_25 : decode cX3_init 25 = .ok (.putfield 18, 3) := by decide +kernel
theorem dX3_init_28 : decode cX3_init 28 = .ok (.aload_n 0, 1) := by decide +kernel
theorem dX3_init_29 : decode cX3_init 29 = .ok (.bipush 100, 2) := by decide +kernel
theorem dX3_init_31 : decode cX3_init 31 = .ok (.newarray .int, 2) := by decide +kernel
theorem dX3_init_33 : decode cX3_init 33 = .ok (.putfield 21, 3) := by decide +kernel
theorem dX3_init_36 : decode cX3_init 36 = .ok (.aload_n 0, 1) := by decide +kernel
theorem dX3_init_37 : decode cX3_init 37 = .ok (.bipush 100, 2) := by decide +kernel
theorem dX3_init_39 : decode cX3_init 39 = .ok (.newarray .int, 2) := by decide +kernel
theorem dX3_init_41 : decode cX3_init 41 = .ok (.putfield 24, 3) := by decide +kernel
theorem dX3_init_44 : decode cX3_init 44 = .ok (.return_, 1) := by decide +kernel
theorem dX3_length_0 : decode cX3_length 0 = .ok (.aload_n 0, 1) := by decide +kernel
theorem dX3_length_1 : decode cX3_length 1 = .ok (.getfield 27, 3) := by decide +kernel
theorem dX3_length_4 : decode cX3_length 4 = .ok (.ireturn, 1) := by decide +kernel
theorem dX3_append_0 : decode cX3_append 0 = .ok (.aload_n 0, 1) := by decide +kernel
theorem dX3_append_1 : decode cX3_append 1 = .ok (.getfield 27, 3) := by decide +kernel
theorem dX3_append_4 : decode cX3_append 4 = .ok (.bipush 100, 2) := by decide +kernel
theorem dX3_append_6 : decode cX3_append 6 = .ok (.if_icmp .ge 23, 3) := by decide +kernel
theorem dX3_append_9 : decode cX3_append 9 = .ok (.aload_n 0, 1) := by decide +kernel
theorem dX3_append_10 : decode cX3_append 10 = .ok (.getfield 9, 3) := by decide +kernel
theorem dX3_append_13 : decode cX3_append 13 = .ok (.aload_n 0, 1) := by decide +kernel
theorem dX3_append_14 : decode cX3_append 14 = .ok (.getfield 27, 3) := by decide +kernel
theorem dX3_append_17 : decode cX3_append 17 = .ok (.iload_n 1, 1) := by decide +kernel
theorem dX3_append_18 : decode cX3_append 18 = .ok (.iastore, 1) := by decide +kernel
theorem dX3_append_19 : decode cX3_append 19 = .ok (.aload_n 0, 1) := by decide +kernel
theorem dX3_append_20 : decode cX3_append 20 = .ok (.dup, 1) := by decide +kernel
theorem dX3_append_21 : decode cX3_append 21 = .ok (.getfield 27, 3) := by decide +kernel
theorem dX3_append_24 : decode cX3_append 24 = .ok (.iconst 1, 1) := by decide +kernel
theorem dX3_append_25 : decode cX3_append 25 = .ok (.iadd, 1) := by decide +kernel
theorem dX3_append_26 : decode cX3_append 26 = .ok (.putfield 27, 3) := by decide +kernel
theorem dX3_append_29 : decode cX3_append 29 = .ok (.return_, 1) := by decide +kernel
theorem dX3_empty_0 : decode cX3_empty 0 = .ok (.aload_n 0, 1) := by decide +kernel
theorem dX3_empty_1 : decode cX3_empty 1 = .ok (.iconst 0, 1) := by decide +kernel
theorem dX3_empty_2 : decode cX3_empty 2 = .ok (.putfield 27, 3) := by decide +kernel
theorem dX3_empty_5 : decode cX3_empty 5 = .ok (.return_, 1) := by decide +kernel
theorem dX3_acts_0 : decode cX3_acts 0 = .ok (.aload_n 0, 1) := by decide +kernel
theorem dX3_acts_1 : decode cX3_acts 1 = .ok (.getfield 31, 3) := by decide +kernel
theorem dX3_acts_4 : decode cX3_acts 4 = .ok (.ireturn, 1) := by decide +kernel
theorem dX3_deepest_0 : decode cX3_deepest 0 = .ok (.aload_n 0, 1) := by decide +kernel
theorem dX3_deepest_1 : decode cX3_deepest 1 = .ok (.getfield 34, 3) := by decide +kernel
theorem dX3_deepest_4 : decode cX3_deepest 4 = .ok (.ireturn, 1) := by decide +kernel
theorem dX3_roomBits_0 : decode cX3_roomBits 0 = .ok (.aload_n 0, 1) := by decide +kernel
theorem dX3_roomBits_1 : decode cX3_roomBits 1 = .ok (.getfield 37, 3) := by decide +kernel
theorem dX3_roomBits_4 : decode cX3_roomBits 4 = .ok (.ireturn, 1) := by decide +kernel
theorem dX3_sign_0 : decode cX3_sign 0 = .ok (.aload_n 0, 1) := by decide +kernel
theorem dX3_sign_1 : decode cX3_sign 1 = .ok (.getfield 15, 3) := by decide +kernel
theorem dX3_sign_4 : decode cX3_sign 4 = .ok (.iload_n 1, 1) := by decide +kernel
theorem dX3_sign_5 : decode cX3_sign 5 = .ok (.invokestatic 40, 3) := by decide +kernel
theorem dX3_sign_8 : decode cX3_sign 8 = .ok (.ireturn, 1) := by decide +kernel
theorem dX3_figure_0 : decode cX3_figure 0 = .ok (.aload_n 0, 1) := by decide +kernel
theorem dX3_figure_1 : decode cX3_figure 1 = .ok (.getfield 18, 3) := by decide +kernel
theorem dX3_figure_4 : decode cX3_figure 4 = .ok (.iload_n 1, 1) := by decide +kernel
theorem dX3_figure_5 : decode cX3_figure 5 = .ok (.invokestatic 40, 3) := by decide +kernel
theorem dX3_figure_8 : decode cX3_figure 8 = .ok (.ireturn, 1) := by decide +kernel
theorem dX3_middle_0 : decode cX3_middle 0 = .ok (.aload_n 0, 1) := by decide +kernel
theorem dX3_middle_1 : decode cX3_middle 1 = .ok (.getfield 21, 3) := by decide +kernel
theorem dX3_middle_4 : decode cX3_middle 4 = .ok (.iload_n 1, 1) := by decide +kernel
theorem dX3_middle_5 : decode cX3_middle 5 = .ok (.invokestatic 40, 3) := by decide +kernel
theorem dX3_middle_8 : decode cX3_middle 8 = .ok (.ireturn, 1) := by decide +kernel
theorem dX3_next_0 : decode cX3_next 0 = .ok (.aload_n 0, 1) := by decide +kernel
theorem dX3_next_1 : decode cX3_next 1 = .ok (.getfield 24, 3) := by decide +kernel
theorem dX3_next_4 : decode cX3_next 4 = .ok (.iload_n 1, 1) := by decide +kernel
theorem dX3_next_5 : decode cX3_next 5 = .ok (.invokestatic 40, 3) := by decide +kernel
theorem dX3_next_8 : decode cX3_next 8 = .ok (.ireturn, 1) := by decide +kernel
theorem dX3_read_0 : decode cX3_read 0 = .ok (.aload_n 0, 1) := by decide +kernel
theorem dX3_read_1 : decode cX3_read 1 = .ok (.iconst 0, 1) := by decide +kernel
theorem dX3_read_2 : decode cX3_read 2 = .ok (.putfield 31, 3) := by decide +kernel
theorem dX3_read_5 : decode cX3_read 5 = .ok (.aload_n 0, 1) := by decide +kernel
theorem dX3_read_6 : decode cX3_read 6 = .ok (.iconst 0, 1) := by decide +kernel
theorem dX3_read_7 : decode cX3_read 7 = .ok (.putfield 34, 3) := by decide +kernel
theorem dX3_read_10 : decode cX3_read 10 = .ok (.aload_n 0, 1) := by decide +kernel
theorem dX3_read_11 : decode cX3_read 11 = .ok (.iconst 0, 1) := by decide +kernel
theorem dX3_read_12 : decode cX3_read 12 = .ok (.putfield 37, 3) := by decide +kernel
theorem dX3_read_15 : decode cX3_read 15 = .ok (.aload_n 0, 1) := by decide +kernel
theorem dX3_read_16 : decode cX3_read 16 = .ok (.iconst 0, 1) := by decide +kernel
theorem dX3_read_17 : decode cX3_read 17 = .ok (.putfield 44, 3) := by decide +kernel
theorem dX3_read_20 : decode cX3_read 20 = .ok (.aload_n 0, 1) := by decide +kernel
theorem dX3_read_21 : decode cX3_read 21 = .ok (.iconst (-1), 1) := by decide +kernel
theorem dX3_read_22 : decode cX3_read 22 = .ok (.putfield 47, 3) := by decide +kernel
theorem dX3_read_25 : decode cX3_read 25 = .ok (.aload_n 0, 1) := by decide +kernel
theorem dX3_read_26 : decode cX3_read 26 = .ok (.iconst 0, 1) := by decide +kernel
theorem dX3_read_27 : decode cX3_read 27 = .ok (.invokevirtual 50, 3) := by decide +kernel
theorem dX3_read_30 : decode cX3_read 30 = .ok (.aload_n 0, 1) := by decide +kernel
theorem dX3_read_31 : decode cX3_read 31 = .ok (.getfield 47, 3) := by decide +kernel
theorem dX3_read_34 : decode cX3_read 34 = .ok (.iconst (-1), 1) := by decide +kernel
theorem dX3_read_35 : decode cX3_read 35 = .ok (.if_icmp .ne 19, 3) := by decide +kernel
theorem dX3_read_38 : decode cX3_read 38 = .ok (.aload_n 0, 1) := by decide +kernel
theorem dX3_read_39 : decode cX3_read 39 = .ok (.invokevirtual 54, 3) := by decide +kernel
theorem dX3_read_42 : decode cX3_read 42 = .ok (.iconst (-1), 1) := by decide +kernel
theorem dX3_read_43 : decode cX3_read 43 = .ok (.if_icmp .eq 11, 3) := by decide +kernel
theorem dX3_read_46 : decode cX3_read 46 = .ok (.aload_n 0, 1) := by decide +kernel
theorem dX3_read_47 : decode cX3_read 47 = .ok (.aload_n 0, 1) := by decide +kernel
theorem dX3_read_48 : decode cX3_read 48 = .ok (.getfield 44, 3) := by decide +kernel
theorem dX3_read_51 : decode cX3_read 51 = .ok (.putfield 47, 3) := by decide +kernel
theorem dX3_read_54 : decode cX3_read 54 = .ok (.aload_n 0, 1) := by decide +kernel
theorem dX3_read_55 : decode cX3_read 55 = .ok (.getfield 47, 3) := by decide +kernel
theorem dX3_read_58 : decode cX3_read 58 = .ok (.ireturn, 1) := by decide +kernel
theorem dX3_nextSign_0 : decode cX3_nextSign 0 = .ok (.aload_n 0, 1) := by decide +kernel
theorem dX3_nextSign_1 : decode cX3_nextSign 1 = .ok (.getfield 44, 3) := by decide +kernel
theorem dX3_nextSign_4 : decode cX3_nextSign 4 = .ok (.aload_n 0, 1) := by decide +kernel
theorem dX3_nextSign_5 : decode cX3_nextSign 5 = .ok (.getfield 27, 3) := by decide +kernel
theorem dX3_nextSign_8 : decode cX3_nextSign 8 = .ok (.if_icmp .ge 30, 3) := by decide +kernel
theorem dX3_nextSign_11 : decode cX3_nextSign 11 = .ok (.aload_n 0, 1) := by decide +kernel
theorem dX3_nextSign_12 : decode cX3_nextSign 12 = .ok (.getfield 9, 3) := by decide +kernel
theorem dX3_nextSign_15 : decode cX3_nextSign 15 = .ok (.aload_n 0, 1) := by decide +kernel
theorem dX3_nextSign_16 : decode cX3_nextSign 16 = .ok (.getfield 44, 3) := by decide +kernel
theorem dX3_nextSign_19 : decode cX3_nextSign 19 = .ok (.iaload, 1) := by decide +kernel
theorem dX3_nextSign_20 : decode cX3_nextSign 20 = .ok (.bipush 32, 2) := by decide +kernel
theorem dX3_nextSign_22 : decode cX3_nextSign 22 = .ok (.if_icmp .ne 16, 3) := by decide +kernel
theorem dX3_nextSign_25 : decode cX3_nextSign 25 = .ok (.aload_n 0, 1) := by decide +kernel
theorem dX3_nextSign_26 : decode cX3_nextSign 26 = .ok (.dup, 1) := by decide +kernel
theorem dX3_nextSign_27 : decode cX3_nextSign 27 = .ok (.getfield 44, 3) := by decide +kernel
theorem dX3_nextSign_30 : decode cX3_nextSign 30 = .ok (.iconst 1, 1) := by decide +kernel
theorem dX3_nextSign_31 : decode cX3_nextSign 31 = .ok (.iadd, 1) := by decide +kernel
theorem dX3_nextSign_32 : decode cX3_nextSign 32 = .ok (.putfield 44, 3) := by decide +kernel
theorem dX3_nextSign_35 : decode cX3_nextSign 35 = .ok (.goto (-35), 3) := by decide +kernel
theorem dX3_nextSign_38 : decode cX3_nextSign 38 = .ok (.aload_n 0, 1) := by decide +kernel
theorem dX3_nextSign_39 : decode cX3_nextSign 39 = .ok (.getfield 44, 3) := by decide +kernel
theorem dX3_nextSign_42 : decode cX3_nextSign 42 = .ok (.aload_n 0, 1) := by decide +kernel
theorem dX3_nextSign_43 : decode cX3_nextSign 43 = .ok (.getfield 27, 3) := by decide +kernel
theorem dX3_nextSign_46 : decode cX3_nextSign 46 = .ok (.if_icmp .ge 15, 3) := by decide +kernel
theorem dX3_nextSign_49 : decode cX3_nextSign 49 = .ok (.aload_n 0, 1) := by decide +kernel
theorem dX3_nextSign_50 : decode cX3_nextSign 50 = .ok (.getfield 9, 3) := by decide +kernel
theorem dX3_nextSign_53 : decode cX3_nextSign 53 = .ok (.aload_n 0, 1) := by decide +kernel
theorem dX3_nextSign_54 : decode cX3_nextSign 54 = .ok (.getfield 44, 3) := by decide +kernel
theorem dX3_nextSign_57 : decode cX3_nextSign 57 = .ok (.iaload, 1) := by decide +kernel
theorem dX3_nextSign_58 : decode cX3_nextSign 58 = .ok (.goto 4, 3) := by decide +kernel
theorem dX3_nextSign_61 : decode cX3_nextSign 61 = .ok (.iconst (-1), 1) := by decide +kernel
theorem dX3_nextSign_62 : decode cX3_nextSign 62 = .ok (.ireturn, 1) := by decide +kernel
theorem dX3_readActs_0 : decode cX3_readActs 0 = .ok (.iconst 0, 1) := by decide +kernel
theorem dX3_readActs_1 : decode cX3_readActs 1 = .ok (.istore_n 2, 1) := by decide +kernel
theorem dX3_readActs_2 : decode cX3_readActs 2 = .ok (.iload_n 2, 1) := by decide +kernel
theorem dX3_readActs_3 : decode cX3_readActs 3 = .ok (.bipush 100, 2) := by decide +kernel
theorem dX3_readActs_5 : decode cX3_readActs 5 = .ok (.if_icmp .ge 32, 3) := by decide +kernel
theorem dX3_readActs_8 : decode cX3_readActs 8 = .ok (.aload_n 0, 1) := by decide +kernel
theorem dX3_readActs_9 : decode cX3_readActs 9 = .ok (.getfield 47, 3) := by decide +kernel
theorem dX3_readActs_12 : decode cX3_readActs 12 = .ok (.iconst (-1), 1) := by decide +kernel
theorem dX3_readActs_13 : decode cX3_readActs 13 = .ok (.if_icmp .ne 24, 3) := by decide +kernel
theorem dX3_readActs_16 : decode cX3_readActs 16 = .ok (.aload_n 0, 1) := by decide +kernel
theorem dX3_readActs_17 : decode cX3_readActs 17 = .ok (.invokevirtual 54, 3) := by decide +kernel
theorem dX3_readActs_20 : decode cX3_readActs 20 = .ok (.invokestatic 58, 3) := by decide +kernel
theorem dX3_readActs_23 : decode cX3_readActs 23 = .ok (.ifCond .eq 14, 3) := by decide +kernel
theorem dX3_readActs_26 : decode cX3_readActs 26 = .ok (.aload_n 0, 1) := by decide +kernel
theorem dX3_readActs_27 : decode cX3_readActs 27 = .ok (.iload_n 1, 1) := by decide +kernel
theorem dX3_readActs_28 : decode cX3_readActs 28 = .ok (.invokevirtual 62, 3) := by decide +kernel
theorem dX3_readActs_31 : decode cX3_readActs 31 = .ok (.iinc 2 1, 3) := by decide +kernel
theorem dX3_readActs_34 : decode cX3_readActs 34 = .ok (.goto (-32), 3) := by decide +kernel
theorem dX3_readActs_37 : decode cX3_readActs 37 = .ok (.return_, 1) := by decide +kernel
theorem dX3_readAct_0 : decode cX3_readAct 0 = .ok (.aload_n 0, 1) := by decide +kernel
theorem dX3_readAct_1 : decode cX3_readAct 1 = .ok (.invokevirtual 54, 3) := by decide +kernel
theorem dX3_readAct_4 : decode cX3_readAct 4 = .ok (.istore_n 2, 1) := by decide +kernel
theorem dX3_readAct_5 : decode cX3_readAct 5 = .ok (.iload_n 2, 1) := by decide +kernel
theorem dX3_readAct_6 : decode cX3_readAct 6 = .ok (.invokestatic 65, 3) := by decide +kernel
theorem dX3_readAct_9 : decode cX3_readAct 9 = .ok (.ifCond .eq 32, 3) := by decide +kernel
theorem dX3_readAct_12 : decode cX3_readAct 12 = .ok (.iload_n 1, 1) := by decide +kernel
theorem dX3_readAct_13 : decode cX3_readAct 13 = .ok (.bipush 8, 2) := by decide +kernel
theorem dX3_readAct_15 : decode cX3_readAct 15 = .ok (.if_icmp .lt 12, 3) := by decide +kernel
theorem dX3_readAct_18 : decode cX3_readAct 18 = .ok (.aload_n 0, 1) := by decide +kernel
theorem dX3_readAct_19 : decode cX3_readAct 19 = .ok (.aload_n 0, 1) := by decide +kernel
theorem dX3_readAct_20 : decode cX3_readAct 20 = .ok (.getfield 44, 3) := by decide +kernel
theorem dX3_readAct_23 : decode cX3_readAct 23 = .ok (.putfield 47, 3) := by decide +kernel
theorem dX3_readAct_26 : decode cX3_readAct 26 = .ok (.return_, 1) := by decide +kernel
theorem dX3_readAct_27 : decode cX3_readAct 27 = .ok (.aload_n 0, 1) := by decide +kernel
theorem dX3_readAct_28 : decode cX3_readAct 28 = .ok (.aload_n 0, 1) := by decide +kernel
theorem dX3_readAct_29 : decode cX3_readAct 29 = .ok (.getfield 34, 3) := by decide +kernel
theorem dX3_readAct_32 : decode cX3_readAct 32 = .ok (.iload_n 1, 1) := by decide +kernel
theorem dX3_readAct_33 : decode cX3_readAct 33 = .ok (.iconst 1, 1) := by decide +kernel
theorem dX3_readAct_34 : decode cX3_readAct 34 = .ok (.iadd, 1) := by decide +kernel
theorem dX3_readAct_35 : decode cX3_readAct 35 = .ok (.invokestatic 68, 3) := by decide +kernel
theorem dX3_readAct_38 : decode cX3_readAct 38 = .ok (.putfield 34, 3) := by decide +kernel
theorem dX3_readAct_41 : decode cX3_readAct 41 = .ok (.aload_n 0, 1) := by decide +kernel
theorem dX3_readAct_42 : decode cX3_readAct 42 = .ok (.getfield 31, 3) := by decide +kernel
theorem dX3_readAct_45 : decode cX3_readAct 45 = .ok (.istore_n 3, 1) := by decide +kernel
theorem dX3_readAct_46 : decode cX3_readAct 46 = .ok (.aload_n 0, 1) := by decide +kernel
theorem dX3_readAct_47 : decode cX3_readAct 47 = .ok (.dup, 1) := by decide +kernel
theorem dX3_readAct_48 : decode cX3_readAct 48 = .ok (.getfield 31, 3) := by decide +kernel
theorem dX3_readAct_51 : decode cX3_readAct 51 = .ok (.iconst 1, 1) := by decide +kernel
theorem dX3_readAct_52 : decode cX3_readAct 52 = .ok (.iadd, 1) := by decide +kernel
theorem dX3_readAct_53 : decode cX3_readAct 53 = .ok (.putfield 31, 3) := by decide +kernel
theorem dX3_readAct_56 : decode cX3_readAct 56 = .ok (.aload_n 0, 1) := by decide +kernel
theorem dX3_readAct_57 : decode cX3_readAct 57 = .ok (.dup, 1) := by decide +kernel
theorem dX3_readAct_58 : decode cX3_readAct 58 = .ok (.getfield 44, 3) := by decide +kernel
theorem dX3_readAct_61 : decode cX3_readAct 61 = .ok (.iconst 1, 1) := by decide +kernel
theorem dX3_readAct_62 : decode cX3_readAct 62 = .ok (.iadd, 1) := by decide +kernel
theorem dX3_readAct_63 : decode cX3_readAct 63 = .ok (.putfield 44, 3) := by decide +kernel
theorem dX3_readAct_66 : decode cX3_readAct 66 = .ok (.aload_n 0, 1) := by decide +kernel
theorem dX3_readAct_67 : decode cX3_readAct 67 = .ok (.getfield 15, 3) := by decide +kernel
theorem dX3_readAct_70 : decode cX3_readAct 70 = .ok (.iload_n 3, 1) := by decide +kernel
theorem dX3_readAct_71 : decode cX3_readAct 71 = .ok (.iload_n 2, 1) := by decide +kernel
theorem dX3_readAct_72 : decode cX3_readAct 72 = .ok (.invokestatic 74, 3) := by decide +kernel
theorem dX3_readAct_75 : decode cX3_readAct 75 = .ok (.ifCond .eq 8, 3) := by decide +kernel
theorem dX3_readAct_78 : decode cX3_readAct 78 = .ok (.bipush 82, 2) := by decide +kernel
theorem dX3_readAct_80 : decode cX3_readAct 80 = .ok (.goto 4, 3) := by decide +kernel
theorem dX3_readAct_83 : decode cX3_readAct 83 = .ok (.iload_n 2, 1) := by decide +kernel
theorem dX3_readAct_84 : decode cX3_readAct 84 = .ok (.invokestatic 77, 3) := by decide +kernel
theorem dX3_readAct_87 : decode cX3_readAct 87 = .ok (.aload_n 0, 1) := by decide +kernel
theorem dX3_readAct_88 : decode cX3_readAct 88 = .ok (.getfield 18, 3) := by decide +kernel
theorem dX3_readAct_91 : decode cX3_readAct 91 = .ok (.iload_n 3, 1) := by decide +kernel
theorem dX3_readAct_92 : decode cX3_readAct 92 = .ok (.iload_n 2, 1) := by decide +kernel
theorem dX3_readAct_93 : decode cX3_readAct 93 = .ok (.invokestatic 74, 3) := by decide +kernel
theorem dX3_readAct_96 : decode cX3_readAct 96 = .ok (.ifCond .eq 10, 3) := by decide +kernel
theorem dX3_readAct_99 : decode cX3_readAct 99 = .ok (.iload_n 2, 1) := by decide +kernel
theorem dX3_readAct_100 : decode cX3_readAct 100 = .ok (.bipush 48, 2) := by decide +kernel
theorem dX3_readAct_102 : decode cX3_readAct 102 = .ok (.isub, 1) := by decide +kernel
theorem dX3_readAct_103 : decode cX3_readAct 103 = .ok (.goto 4, 3) := by decide +kernel
theorem dX3_readAct_106 : decode cX3_readAct 106 = .ok (.iconst 0, 1) := by decide +kernel
theorem dX3_readAct_107 : decode cX3_readAct 107 = .ok (.invokestatic 77, 3) := by decide +kernel
theorem dX3_readAct_110 : decode cX3_readAct 110 = .ok (.aload_n 0, 1) := by decide +kernel
theorem dX3_readAct_111 : decode cX3_readAct 111 = .ok (.iload_n 3, 1) := by decide +kernel
theorem dX3_readAct_112 : decode cX3_readAct 112 = .ok (.iload_n 2, 1) := by decide +kernel
theorem dX3_readAct_113 : decode cX3_readAct 113 = .ok (.iload_n 1, 1) := by decide +kernel
theorem dX3_readAct_114 : decode cX3_readAct 114 = .ok (.iconst 1, 1) := by decide +kernel
theorem dX3_readAct_115 : decode cX3_readAct 115 = .ok (.iadd, 1) := by decide +kernel
theorem dX3_readAct_116 : decode cX3_readAct 116 = .ok (.invokevirtual 81, 3) := by decide +kernel
theorem dX3_readAct_119 : decode cX3_readAct 119 = .ok (.aload_n 0, 1) := by decide +kernel
theorem dX3_readAct_120 : decode cX3_readAct 120 = .ok (.getfield 24, 3) := by decide +kernel
theorem dX3_readAct_123 : decode cX3_readAct 123 = .ok (.iload_n 3, 1) := by decide +kernel
theorem dX3_readAct_124 : decode cX3_readAct 124 = .ok (.aload_n 0, 1) := by decide +kernel
theorem dX3_readAct_125 : decode cX3_readAct 125 = .ok (.getfield 31, 3) := by decide +kernel
theorem dX3_readAct_128 : decode cX3_readAct 128 = .ok (.invokestatic 77, 3) := by decide +kernel
theorem dX3_readAct_131 : decode cX3_readAct 131 = .ok (.return_, 1) := by decide +kernel
theorem dX3_readRest_0 : decode cX3_readRest 0 = .ok (.iload_n 2, 1) := by decide +kernel
theorem dX3_readRest_1 : decode cX3_readRest 1 = .ok (.lookupswitch 134 #[(33, 51), (40, 66), (60, 92), (91, 79), (120, 104)], 51) := by decide +kernel
theorem dX3_readRest_52 : decode cX3_readRest 52 = .ok (.aload_n 0, 1) := by decide +kernel
theorem dX3_readRest_53 : decode cX3_readRest 53 = .ok (.getfield 18, 3) := by decide +kernel
theorem dX3_readRest_56 : decode cX3_readRest 56 = .ok (.iload_n 1, 1) := by decide +kernel
theorem dX3_readRest_57 : decode cX3_readRest 57 = .ok (.aload_n 0, 1) := by decide +kernel
theorem dX3_readRest_58 : decode cX3_readRest 58 = .ok (.invokevirtual 85, 3) := by decide +kernel
theorem dX3_readRest_61 : decode cX3_readRest 61 = .ok (.invokestatic 77, 3) := by decide +kernel
theorem dX3_readRest_64 : decode cX3_readRest 64 = .ok (.goto 108, 3) := by decide +kernel
theorem dX3_readRest_67 : decode cX3_readRest 67 = .ok (.aload_n 0, 1) := by decide +kernel
theorem dX3_readRest_68 : decode cX3_readRest 68 = .ok (.iload_n 1, 1) := by decide +kernel
theorem dX3_readRest_69 : decode cX3_readRest 69 = .ok (.bipush 47, 2) := by decide +kernel
theorem dX3_readRest_71 : decode cX3_readRest 71 = .ok (.bipush 41, 2) := by decide +kernel
theorem dX3_readRest_73 : decode cX3_readRest 73 = .ok (.iload_n 3, 1) := by decide +kernel
theorem dX3_readRest_74 : decode cX3_readRest 74 = .ok (.invokevirtual 88, 3) := by decide +kernel
theorem dX3_readRest_77 : decode cX3_readRest 77 = .ok (.goto 95, 3) := by decide +kernel
theorem dX3_readRest_80 : decode cX3_readRest 80 = .ok (.aload_n 0, 1) := by decide +kernel
theorem dX3_readRest_81 : decode cX3_readRest 81 = .ok (.iload_n 1, 1) := by decide +kernel
theorem dX3_readRest_82 : decode cX3_readRest 82 = .ok (.bipush 47, 2) := by decide +kernel
theorem dX3_readRest_84 : decode cX3_readRest 84 = .ok (.bipush 93, 2) := by decide +kernel
theorem dX3_readRest_86 : decode cX3_readRest 86 = .ok (.iload_n 3, 1) := by decide +kernel
theorem dX3_readRest_87 : decode cX3_readRest 87 = .ok (.invokevirtual 88, 3) := by decide +kernel
theorem dX3_readRest_90 : decode cX3_readRest 90 = .ok (.goto 82, 3) := by decide +kernel
theorem dX3_readRest_93 : decode cX3_readRest 93 = .ok (.aload_n 0, 1) := by decide +kernel
theorem dX3_readRest_94 : decode cX3_readRest 94 = .ok (.iload_n 1, 1) := by decide +kernel
theorem dX3_readRest_95 : decode cX3_readRest 95 = .ok (.iconst (-1), 1) := by decide +kernel
theorem dX3_readRest_96 : decode cX3_readRest 96 = .ok (.bipush 62, 2) := by decide +kernel
theorem dX3_readRest_98 : decode cX3_readRest 98 = .ok (.iload_n 3, 1) := by decide +kernel
theorem dX3_readRest_99 : decode cX3_readRest 99 = .ok (.invokevirtual 88, 3) := by decide +kernel
theorem dX3_readRest_102 : decode cX3_readRest 102 = .ok (.goto 70, 3) := by decide +kernel
theorem dX3_readRest_105 : decode cX3_readRest 105 = .ok (.aload_n 0, 1) := by decide +kernel
theorem dX3_readRest_106 : decode cX3_readRest 106 = .ok (.getfield 18, 3) := by decide +kernel
theorem dX3_readRest_109 : decode cX3_readRest 109 = .ok (.iload_n 1, 1) := by decide +kernel
theorem dX3_readRest_110 : decode cX3_readRest 110 = .ok (.aload_n 0, 1) := by decide +kernel
theorem dX3_readRest_111 : decode cX3_readRest 111 = .ok (.invokevirtual 85, 3) := by decide +kernel
theorem dX3_readRest_114 : decode cX3_readRest 114 = .ok (.invokestatic 77, 3) := by decide +kernel
theorem dX3_readRest_117 : decode cX3_readRest 117 = .ok (.aload_n 0, 1) := by decide +kernel
theorem dX3_readRest_118 : decode cX3_readRest 118 = .ok (.bipush 58, 2) := by decide +kernel
theorem dX3_readRest_120 : decode cX3_readRest 120 = .ok (.invokevirtual 92, 3) := by decide +kernel
theorem dX3_readRest_123 : decode cX3_readRest 123 = .ok (.aload_n 0, 1) := by decide +kernel
theorem dX3_readRest_124 : decode cX3_readRest 124 = .ok (.iload_n 1, 1) := by decide +kernel
theorem dX3_readRest_125 : decode cX3_readRest 125 = .ok (.iconst (-1), 1) := by decide +kernel
theorem dX3_readRest_126 : decode cX3_readRest 126 = .ok (.bipush 59, 2) := by decide +kernel
theorem dX3_readRest_128 : decode cX3_readRest 128 = .ok (.iload_n 3, 1) := by decide +kernel
theorem dX3_readRest_129 : decode cX3_readRest 129 = .ok (.invokevirtual 88, 3) := by decide +kernel
theorem dX3_readRest_132 : decode cX3_readRest 132 = .ok (.goto 40, 3) := by decide +kernel
theorem dX3_readRest_135 : decode cX3_readRest 135 = .ok (.iload_n 2, 1) := by decide +kernel
theorem dX3_readRest_136 : decode cX3_readRest 136 = .ok (.invokestatic 74, 3) := by decide +kernel
theorem dX3_readRest_139 : decode cX3_readRest 139 = .ok (.ifCond .eq 33, 3) := by decide +kernel
theorem dX3_readRest_142 : decode cX3_readRest 142 = .ok (.aload_n 0, 1) := by decide +kernel
theorem dX3_readRest_143 : decode cX3_readRest 143 = .ok (.dup, 1) := by decide +kernel
theorem dX3_readRest_144 : decode cX3_readRest 144 = .ok (.getfield 37, 3) := by decide +kernel
theorem dX3_readRest_147 : decode cX3_readRest 147 = .ok (.iconst 1, 1) := by decide +kernel
theorem dX3_readRest_148 : decode cX3_readRest 148 = .ok (.iload_n 2, 1) := by decide +kernel
theorem dX3_readRest_149 : decode cX3_readRest 149 = .ok (.bipush 48, 2) := by decide +kernel
theorem dX3_readRest_151 : decode cX3_readRest 151 = .ok (.isub, 1) := by decide +kernel
theorem dX3_readRest_152 : decode cX3_readRest 152 = .ok (.ishl, 1) := by decide +kernel
theorem dX3_readRest_153 : decode cX3_readRest 153 = .ok (.ior, 1) := by decide +kernel
theorem dX3_readRest_154 : decode cX3_readRest 154 = .ok (.putfield 37, 3) := by decide +kernel
theorem dX3_readRest_157 : decode cX3_readRest 157 = .ok (.aload_n 0, 1) := by decide +kernel
theorem dX3_readRest_158 : decode cX3_readRest 158 = .ok (.bipush 123, 2) := by decide +kernel
theorem dX3_readRest_160 : decode cX3_readRest 160 = .ok (.invokevirtual 92, 3) := by decide +kernel
theorem dX3_readRest_163 : decode cX3_readRest 163 = .ok (.aload_n 0, 1) := by decide +kernel
theorem dX3_readRest_164 : decode cX3_readRest 164 = .ok (.iload_n 1, 1) := by decide +kernel
theorem dX3_readRest_165 : decode cX3_readRest 165 = .ok (.iconst (-1), 1) := by decide +kernel
theorem dX3_readRest_166 : decode cX3_readRest 166 = .ok (.bipush 125, 2) := by decide +kernel
theorem dX3_readRest_168 : decode cX3_readRest 168 = .ok (.iload_n 3, 1) := by decide +kernel
theorem dX3_readRest_169 : decode cX3_readRest 169 = .ok (.invokevirtual 88, 3) := by decide +kernel
theorem dX3_readRest_172 : decode cX3_readRest 172 = .ok (.return_, 1) := by decide +kernel
theorem dX3_readParts_0 : decode cX3_readParts 0 = .ok (.aload_n 0, 1) := by decide +kernel
theorem dX3_readParts_1 : decode cX3_readParts 1 = .ok (.iload 4, 2) := by decide +kernel
theorem dX3_readParts_3 : decode cX3_readParts 3 = .ok (.invokevirtual 50, 3) := by decide +kernel
theorem dX3_readParts_6 : decode cX3_readParts 6 = .ok (.aload_n 0, 1) := by decide +kernel
theorem dX3_readParts_7 : decode cX3_readParts 7 = .ok (.getfield 21, 3) := by decide +kernel
theorem dX3_readParts_10 : decode cX3_readParts 10 = .ok (.iload_n 1, 1) := by decide +kernel
theorem dX3_readParts_11 : decode cX3_readParts 11 = .ok (.aload_n 0, 1) := by decide +kernel
theorem dX3_readParts_12 : decode cX3_readParts 12 = .ok (.getfield 31, 3) := by decide +kernel
theorem dX3_readParts_15 : decode cX3_readParts 15 = .ok (.invokestatic 77, 3) := by decide +kernel
theorem dX3_readParts_18 : decode cX3_readParts 18 = .ok (.iload_n 2, 1) := by decide +kernel
theorem dX3_readParts_19 : decode cX3_readParts 19 = .ok (.iconst (-1), 1) := by decide +kernel
theorem dX3_readParts_20 : decode cX3_readParts 20 = .ok (.if_icmp .eq 14, 3) := by decide +kernel
theorem dX3_readParts_23 : decode cX3_readParts 23 = .ok (.aload_n 0, 1) := by decide +kernel
theorem dX3_readParts_24 : decode cX3_readParts 24 = .ok (.iload_n 2, 1) := by decide +kernel
theorem dX3_readParts_25 : decode cX3_readParts 25 = .ok (.invokevirtual 92, 3) := by decide +kernel
theorem dX3_readParts_28 : decode cX3_readParts 28 = .ok (.aload_n 0, 1) := by decide +kernel
theorem dX3_readParts_29 : decode cX3_readParts 29 = .ok (.iload 4, 2) := by decide +kernel
theorem dX3_readParts_31 : decode cX3_readParts 31 = .ok (.invokevirtual 50, 3) := by decide +kernel
theorem dX3_readParts_34 : decode cX3_readParts 34 = .ok (.aload_n 0, 1) := by decide +kernel
theorem dX3_readParts_35 : decode cX3_readParts 35 = .ok (.iload_n 3, 1) := by decide +kernel
theorem dX3_readParts_36 : decode cX3_readParts 36 = .ok (.invokevirtual 92, 3) := by decide +kernel
theorem dX3_readParts_39 : decode cX3_readParts 39 = .ok (.return_, 1) := by decide +kernel
theorem dX3_expect_0 : decode cX3_expect 0 = .ok (.aload_n 0, 1) := by decide +kernel
theorem dX3_expect_1 : decode cX3_expect 1 = .ok (.getfield 47, 3) := by decide +kernel
theorem dX3_expect_4 : decode cX3_expect 4 = .ok (.iconst (-1), 1) := by decide +kernel
theorem dX3_expect_5 : decode cX3_expect 5 = .ok (.if_icmp .eq 4, 3) := by decide +kernel
theorem dX3_expect_8 : decode cX3_expect 8 = .ok (.return_, 1) := by decide +kernel
theorem dX3_expect_9 : decode cX3_expect 9 = .ok (.aload_n 0, 1) := by decide +kernel
theorem dX3_expect_10 : decode cX3_expect 10 = .ok (.invokevirtual 54, 3) := by decide +kernel
theorem dX3_expect_13 : decode cX3_expect 13 = .ok (.iload_n 1, 1) := by decide +kernel
theorem dX3_expect_14 : decode cX3_expect 14 = .ok (.if_icmp .ne 16, 3) := by decide +kernel
theorem dX3_expect_17 : decode cX3_expect 17 = .ok (.aload_n 0, 1) := by decide +kernel
theorem dX3_expect_18 : decode cX3_expect 18 = .ok (.dup, 1) := by decide +kernel
theorem dX3_expect_19 : decode cX3_expect 19 = .ok (.getfield 44, 3) := by decide +kernel
theorem dX3_expect_22 : decode cX3_expect 22 = .ok (.iconst 1, 1) := by decide +kernel
theorem dX3_expect_23 : decode cX3_expect 23 = .ok (.iadd, 1) := by decide +kernel
theorem dX3_expect_24 : decode cX3_expect 24 = .ok (.putfield 44, 3) := by decide +kernel
theorem dX3_expect_27 : decode cX3_expect 27 = .ok (.goto 11, 3) := by decide +kernel
theorem dX3_expect_30 : decode cX3_expect 30 = .ok (.aload_n 0, 1) := by decide +kernel
theorem dX3_expect_31 : decode cX3_expect 31 = .ok (.aload_n 0, 1) := by decide +kernel
theorem dX3_expect_32 : decode cX3_expect 32 = .ok (.getfield 44, 3) := by decide +kernel
theorem dX3_expect_35 : decode cX3_expect 35 = .ok (.putfield 47, 3) := by decide +kernel
theorem dX3_expect_38 : decode cX3_expect 38 = .ok (.return_, 1) := by decide +kernel
theorem dX3_readFigure_0 : decode cX3_readFigure 0 = .ok (.aload_n 0, 1) := by decide +kernel
theorem dX3_readFigure_1 : decode cX3_readFigure 1 = .ok (.invokevirtual 54, 3) := by decide +kernel
theorem dX3_readFigure_4 : decode cX3_readFigure 4 = .ok (.istore_n 1, 1) := by decide +kernel
theorem dX3_readFigure_5 : decode cX3_readFigure 5 = .ok (.iload_n 1, 1) := by decide +kernel
theorem dX3_readFigure_6 : decode cX3_readFigure 6 = .ok (.bipush 48, 2) := by decide +kernel
theorem dX3_readFigure_8 : decode cX3_readFigure 8 = .ok (.bipush 57, 2) := by decide +kernel
theorem dX3_readFigure_10 : decode cX3_readFigure 10 = .ok (.invokestatic 95, 3) := by decide +kernel
theorem dX3_readFigure_13 : decode cX3_readFigure 13 = .ok (.ifCond .ne 13, 3) := by decide +kernel
theorem dX3_readFigure_16 : decode cX3_readFigure 16 = .ok (.aload_n 0, 1) := by decide +kernel
theorem dX3_readFigure_17 : decode cX3_readFigure 17 = .ok (.aload_n 0, 1) := by decide +kernel
theorem dX3_readFigure_18 : decode cX3_readFigure 18 = .ok (.getfield 44, 3) := by decide +kernel
theorem dX3_readFigure_21 : decode cX3_readFigure 21 = .ok (.putfield 47, 3) := by decide +kernel
theorem dX3_readFigure_24 : decode cX3_readFigure 24 = .ok (.iconst 0, 1) := by decide +kernel
theorem dX3_readFigure_25 : decode cX3_readFigure 25 = .ok (.ireturn, 1) := by decide +kernel
theorem dX3_readFigure_26 : decode cX3_readFigure 26 = .ok (.aload_n 0, 1) := by decide +kernel
theorem dX3_readFigure_27 : decode cX3_readFigure 27 = .ok (.dup, 1) := by decide +kernel
theorem dX3_readFigure_28 : decode cX3_readFigure 28 = .ok (.getfield 44, 3) := by decide +kernel
theorem dX3_readFigure_31 : decode cX3_readFigure 31 = .ok (.iconst 1, 1) := by decide +kernel
theorem dX3_readFigure_32 : decode cX3_readFigure 32 = .ok (.iadd, 1) := by decide +kernel
theorem dX3_readFigure_33 : decode cX3_readFigure 33 = .ok (.putfield 44, 3) := by decide +kernel
theorem dX3_readFigure_36 : decode cX3_readFigure 36 = .ok (.iload_n 1, 1) := by decide +kernel
theorem dX3_readFigure_37 : decode cX3_readFigure 37 = .ok (.bipush 48, 2) := by decide +kernel
theorem dX3_readFigure_39 : decode cX3_readFigure 39 = .ok (.isub, 1) := by decide +kernel
theorem dX3_readFigure_40 : decode cX3_readFigure 40 = .ok (.ireturn, 1) := by decide +kernel
theorem dX3_isRoomSign_0 : decode cX3_isRoomSign 0 = .ok (.iload_n 0, 1) := by decide +kernel
theorem dX3_isRoomSign_1 : decode cX3_isRoomSign 1 = .ok (.bipush 48, 2) := by decide +kernel
theorem dX3_isRoomSign_3 : decode cX3_isRoomSign 3 = .ok (.bipush 55, 2) := by decide +kernel
theorem dX3_isRoomSign_5 : decode cX3_isRoomSign 5 = .ok (.invokestatic 95, 3) := by decide +kernel
theorem dX3_isRoomSign_8 : decode cX3_isRoomSign 8 = .ok (.ireturn, 1) := by decide +kernel
theorem dX3_holdsActs_0 : decode cX3_holdsActs 0 = .ok (.iload_n 0, 1) := by decide +kernel
theorem dX3_holdsActs_1 : decode cX3_holdsActs 1 = .ok (.invokestatic 74, 3) := by decide +kernel
theorem dX3_holdsActs_4 : decode cX3_holdsActs 4 = .ok (.ifCond .ne 27, 3) := by decide +kernel
theorem dX3_holdsActs_7 : decode cX3_holdsActs 7 = .ok (.iload_n 0, 1) := by decide +kernel
theorem dX3_holdsActs_8 : decode cX3_holdsActs 8 = .ok (.bipush 40, 2) := by decide +kernel
theorem dX3_holdsActs_10 : decode cX3_holdsActs 10 = .ok (.if_icmp .eq 21, 3) := by decide +kernel
theorem dX3_holdsActs_13 : decode cX3_holdsActs 13 = .ok (.iload_n 0, 1) := by decide +kernel
theorem dX3_holdsActs_14 : decode cX3_holdsActs 14 = .ok (.bipush 91, 2) := by decide +kernel
theorem dX3_holdsActs_16 : decode cX3_holdsActs 16 = .ok (.if_icmp .eq 15, 3) := by decide +kernel
theorem dX3_holdsActs_19 : decode cX3_holdsActs 19 = .ok (.iload_n 0, 1) := by decide +kernel
theorem dX3_holdsActs_20 : decode cX3_holdsActs 20 = .ok (.bipush 60, 2) := by decide +kernel
theorem dX3_holdsActs_22 : decode cX3_holdsActs 22 = .ok (.if_icmp .eq 9, 3) := by decide +kernel
theorem dX3_holdsActs_25 : decode cX3_holdsActs 25 = .ok (.iload_n 0, 1) := by decide +kernel
theorem dX3_holdsActs_26 : decode cX3_holdsActs 26 = .ok (.bipush 120, 2) := by decide +kernel
theorem dX3_holdsActs_28 : decode cX3_holdsActs 28 = .ok (.if_icmp .ne 7, 3) := by decide +kernel
theorem dX3_holdsActs_31 : decode cX3_holdsActs 31 = .ok (.iconst 1, 1) := by decide +kernel
theorem dX3_holdsActs_32 : decode cX3_holdsActs 32 = .ok (.goto 4, 3) := by decide +kernel
theorem dX3_holdsActs_35 : decode cX3_holdsActs 35 = .ok (.iconst 0, 1) := by decide +kernel
theorem dX3_holdsActs_36 : decode cX3_holdsActs 36 = .ok (.ireturn, 1) := by decide +kernel
theorem dX3_beginsAct_0 : decode cX3_beginsAct 0 = .ok (.iload_n 0, 1) := by decide +kernel
theorem dX3_beginsAct_1 : decode cX3_beginsAct 1 = .ok (.invokestatic 65, 3) := by decide +kernel
theorem dX3_beginsAct_4 : decode cX3_beginsAct 4 = .ok (.ifCond .ne 39, 3) := by decide +kernel
theorem dX3_beginsAct_7 : decode cX3_beginsAct 7 = .ok (.iload_n 0, 1) := by decide +kernel
theorem dX3_beginsAct_8 : decode cX3_beginsAct 8 = .ok (.bipush 108, 2) := by decide +kernel
theorem dX3_beginsAct_10 : decode cX3_beginsAct 10 = .ok (.if_icmp .eq 33, 3) := by decide +kernel
theorem dX3_beginsAct_13 : decode cX3_beginsAct 13 = .ok (.iload_n 0, 1) := by decide +kernel
theorem dX3_beginsAct_14 : decode cX3_beginsAct 14 = .ok (.bipush 107, 2) := by decide +kernel
theorem dX3_beginsAct_16 : decode cX3_beginsAct 16 = .ok (.if_icmp .eq 27, 3) := by decide +kernel
theorem dX3_beginsAct_19 : decode cX3_beginsAct 19 = .ok (.iload_n 0, 1) := by decide +kernel
theorem dX3_beginsAct_20 : decode cX3_beginsAct 20 = .ok (.bipush 119, 2) := by decide +kernel
theorem dX3_beginsAct_22 : decode cX3_beginsAct 22 = .ok (.if_icmp .eq 21, 3) := by decide +kernel
theorem dX3_beginsAct_25 : decode cX3_beginsAct 25 = .ok (.iload_n 0, 1) := by decide +kernel
theorem dX3_beginsAct_26 : decode cX3_beginsAct 26 = .ok (.bipush 98, 2) := by decide +kernel
theorem dX3_beginsAct_28 : decode cX3_beginsAct 28 = .ok (.if_icmp .eq 15, 3) := by decide +kernel
theorem dX3_beginsAct_31 : decode cX3_beginsAct 31 = .ok (.iload_n 0, 1) := by decide +kernel
theorem dX3_beginsAct_32 : decode cX3_beginsAct 32 = .ok (.bipush 43, 2) := by decide +kernel
theorem dX3_beginsAct_34 : decode cX3_beginsAct 34 = .ok (.if_icmp .eq 9, 3) := by decide +kernel
theorem dX3_beginsAct_37 : decode cX3_beginsAct 37 = .ok (.iload_n 0, 1) := by decide +kernel
theorem dX3_beginsAct_38 : decode cX3_beginsAct 38 = .ok (.bipush 33, 2) := by decide +kernel
theorem dX3_beginsAct_40 : decode cX3_beginsAct 40 = .ok (.if_icmp .ne 7, 3) := by decide +kernel
theorem dX3_beginsAct_43 : decode cX3_beginsAct 43 = .ok (.iconst 1, 1) := by decide +kernel
theorem dX3_beginsAct_44 : decode cX3_beginsAct 44 = .ok (.goto 4, 3) := by decide +kernel
theorem dX3_beginsAct_47 : decode cX3_beginsAct 47 = .ok (.iconst 0, 1) := by decide +kernel
theorem dX3_beginsAct_48 : decode cX3_beginsAct 48 = .ok (.ireturn, 1) := by decide +kernel
theorem dX4_init_0 : decode cX4_init 0 = .ok (.aload_n 0, 1) := by decide +kernel
theorem dX4_init_1 : decode cX4_init 1 = .ok (.invokespecial 3, 3) := by decide +kernel
theorem dX4_init_4 : decode cX4_init 4 = .ok (.aload_n 0, 1) := by decide +kernel
theorem dX4_init_5 : decode cX4_init 5 = .ok (.bipush 8, 2) := by decide +kernel
theorem dX4_init_7 : decode cX4_init 7 = .ok (.newarray .int, 2) := by decide +kernel
theorem dX4_init_9 : decode cX4_init 9 = .ok (.putfield 9, 3) := by decide +kernel
theorem dX4_init_12 : decode cX4_init 12 = .ok (.aload_n 0, 1) := by decide +kernel
theorem dX4_init_13 : decode cX4_init 13 = .ok (.sipush 150, 3) := by decide +kernel
theorem dX4_init_16 : decode cX4_init 16 = .ok (.newarray .int, 2) := by decide +kernel
theorem dX4_init_18 : decode cX4_init 18 = .ok (.putfield 15, 3) := by decide +kernel
theorem dX4_init_21 : decode cX4_init 21 = .ok (.aload_n 0, 1) := by decide +kernel
theorem dX4_init_22 : decode cX4_init 22 = .ok (.invokevirtual 18, 3) := by decide +kernel
theorem dX4_init_25 : decode cX4_init 25 = .ok (.return_, 1) := by decide +kernel
theorem dX4_begin_0 : decode cX4_begin 0 = .ok (.aload_n 0, 1) := by decide +kernel
theorem dX4_begin_1 : decode cX4_begin 1 = .ok (.getfield 9, 3) := by decide +kernel
theorem dX4_begin_4 : decode cX4_begin 4 = .ok (.iconst 0, 1) := by decide +kernel
theorem dX4_begin_5 : decode cX4_begin 5 = .ok (.invokestatic 21, 3) := by decide +kernel
theorem dX4_begin_8 : decode cX4_begin 8 = .ok (.aload_n 0, 1) := by decide +kernel
theorem dX4_begin_9 : decode cX4_begin 9 = .ok (.iconst 0, 1) := by decide +kernel
theorem dX4_begin_10 : decode cX4_begin 10 = .ok (.putfield 27, 3) := by decide +kernel
theorem dX4_begin_13 : decode cX4_begin 13 = .ok (.aload_n 0, 1) := by decide +kernel
theorem dX4_begin_14 : decode cX4_begin 14 = .ok (.iconst 0, 1) := by decide +kernel
theorem dX4_begin_15 : decode cX4_begin 15 = .ok (.putfield 31, 3) := by decide +kernel
theorem dX4_begin_18 : decode cX4_begin 18 = .ok (.aload_n 0, 1) := by decide +kernel
theorem dX4_begin_19 : decode cX4_begin 19 = .ok (.invokevirtual 34, 3) := by decide +kernel
theorem dX4_begin_22 : decode cX4_begin 22 = .ok (.return_, 1) := by decide +kernel
theorem dX4_calm_0 : decode cX4_calm 0 = .ok (.aload_n 0, 1) := by decide +kernel
theorem dX4_calm_1 : decode cX4_calm 1 = .ok (.getfield 9, 3) := by decide +kernel
theorem dX4_calm_4 : decode cX4_calm 4 = .ok (.iconst 0, 1) := by decide +kernel
theorem dX4_calm_5 : decode cX4_calm 5 = .ok (.iconst 0, 1) := by decide +kernel
theorem dX4_calm_6 : decode cX4_calm 6 = .ok (.iastore, 1) := by decide +kernel
theorem dX4_calm_7 : decode cX4_calm 7 = .ok (.aload_n 0, 1) := by decide +kernel
theorem dX4_calm_8 : decode cX4_calm 8 = .ok (.getfield 9, 3) := by decide +kernel
theorem dX4_calm_11 : decode cX4_calm 11 = .ok (.iconst 1, 1) := by decide +kernel
theorem dX4_calm_12 : decode cX4_calm 12 = .ok (.iconst (-1), 1) := by decide +kernel
theorem dX4_calm_13 : decode cX4_calm 13 = .ok (.iastore, 1) := by decide +kernel
theorem dX4_calm_14 : decode cX4_calm 14 = .ok (.aload_n 0, 1) := by decide +kernel
theorem dX4_calm_15 : decode cX4_calm 15 = .ok (.getfield 9, 3) := by decide +kernel
theorem dX4_calm_18 : decode cX4_calm 18 = .ok (.iconst 2, 1) := by decide +kernel
theorem dX4_calm_19 : decode cX4_calm 19 = .ok (.iconst (-1), 1) := by decide +kernel
theorem dX4_calm_20 : decode cX4_calm 20 = .ok (.iastore, 1) := by decide +kernel
theorem dX4_calm_21 : decode cX4_calm 21 = .ok (.aload_n 0, 1) := by decide +kernel
theorem dX4_calm_22 : decode cX4_calm 22 = .ok (.getfield 9, 3) := by decide +kernel
theorem dX4_calm_25 : decode cX4_calm 25 = .ok (.iconst 3, 1) := by decide +kernel
theorem dX4_calm_26 : decode cX4_calm 26 = .ok (.iconst 0, 1) := by decide +kernel
theorem dX4_calm_27 : decode cX4_calm 27 = .ok (.iastore, 1) := by decide +kernel
theorem dX4_calm_28 : decode cX4_calm 28 = .ok (.aload_n 0, 1) := by decide +kernel
theorem dX4_calm_29 : decode cX4_calm 29 = .ok (.iconst (-1), 1) := by decide +kernel
theorem dX4_calm_30 : decode cX4_calm 30 = .ok (.putfield 37, 3) := by decide +kernel
theorem dX4_calm_33 : decode cX4_calm 33 = .ok (.return_, 1) := by decide +kernel
theorem dX4_befall_0 : decode cX4_befall 0 = .ok (.aload_n 0, 1) := by decide +kernel
theorem dX4_befall_1 : decode cX4_befall 1 = .ok (.getfield 9, 3) := by decide +kernel
theorem dX4_befall_4 : decode cX4_befall 4 = .ok (.iconst 0, 1) := by decide +kernel
theorem dX4_befall_5 : decode cX4_befall 5 = .ok (.iload_n 1, 1) := by decide +kernel
theorem dX4_befall_6 : decode cX4_befall 6 = .ok (.iastore, 1) := by decide +kernel
theorem dX4_befall_7 : decode cX4_befall 7 = .ok (.aload_n 0, 1) := by decide +kernel
theorem dX4_befall_8 : decode cX4_befall 8 = .ok (.getfield 9, 3) := by decide +kernel
theorem dX4_befall_11 : decode cX4_befall 11 = .ok (.iconst 1, 1) := by decide +kernel
theorem dX4_befall_12 : decode cX4_befall 12 = .ok (.iload_n 2, 1) := by decide +kernel
theorem dX4_befall_13 : decode cX4_befall 13 = .ok (.iastore, 1) := by decide +kernel
theorem dX4_befall_14 : decode cX4_befall 14 = .ok (.aload_n 0, 1) := by decide +kernel
theorem dX4_befall_15 : decode cX4_befall 15 = .ok (.getfield 9, 3) := by decide +kernel
theorem dX4_befall_18 : decode cX4_befall 18 = .ok (.iconst 2, 1) := by decide +kernel
theorem dX4_befall_19 : decode cX4_befall 19 = .ok (.iload_n 3, 1) := by decide +kernel
theorem dX4_befall_20 : decode cX4_befall 20 = .ok (.iastore, 1) := by decide +kernel
theorem dX4_befall_21 : decode cX4_befall 21 = .ok (.aload_n 0, 1) := by decide +kernel
theorem dX4_befall_22 : decode cX4_befall 22 = .ok (.getfield 9, 3) := by decide +kernel
theorem dX4_befall_25 : decode cX4_befall 25 = .ok (.bipush 7, 2) := by decide +kernel
theorem dX4_befall_27 : decode cX4_befall 27 = .ok (.dup2, 1) := by decide +kernel
theorem dX4_befall_28 : decode cX4_befall 28 = .ok (.iaload, 1) := by decide +kernel
theorem dX4_befall_29 : decode cX4_befall 29 = .ok (.iconst 1, 1) := by decide +kernel
theorem dX4_befall_30 : decode cX4_befall 30 = .ok (.iadd, 1) := by decide +kernel
theorem dX4_befall_31 : decode cX4_befall 31 = .ok (.iastore, 1) := by decide +kernel
theorem dX4_befall_32 : decode cX4_befall 32 = .ok (.return_, 1) := by decide +kernel
theorem dX4_report_0 : decode cX4_report 0 = .ok (.aload_n 0, 1) := by decide +kernel
theorem dX4_report_1 : decode cX4_report 1 = .ok (.getfield 9, 3) := by decide +kernel
theorem dX4_report_4 : decode cX4_report 4 = .ok (.iconst 0, 1) := by decide +kernel
theorem dX4_report_5 : decode cX4_report 5 = .ok (.iaload, 1) := by decide +kernel
theorem dX4_report_6 : decode cX4_report 6 = .ok (.iconst 5, 1) := by decide +kernel
theorem dX4_report_7 : decode cX4_report 7 = .ok (.if_icmp .eq 13, 3) := by decide +kernel
theorem dX4_report_10 : decode cX4_report 10 = .ok (.aload_n 0, 1) := by decide +kernel
theorem dX4_report_11 : decode cX4_report 11 = .ok (.aload_n 0, 1) := by decide +kernel
end
section
theorem dX4_report_12 : decode cX4_report 12 = .ok (.getfield 9, 3) := by decide +kernel
theorem dX4_report_15 : decode cX4_report 15 = .ok (.iconst 0, 1) := by decide +kernel
theorem dX4_report_16 : decode cX4_report 16 = .ok (.iaload, 1) := by decide +kernel
theorem dX4_report_17 : decode cX4_report 17 = .ok (.putfield 37, 3) := by decide +kernel
theorem dX4_report_20 : decode cX4_report 20 = .ok (.aload_n 0, 1) := by decide +kernel
theorem dX4_report_21 : decode cX4_report 21 = .ok (.getfield 9, 3) := by decide +kernel
theorem dX4_report_24 : decode cX4_report 24 = .ok (.iconst 3, 1) := by decide +kernel
theorem dX4_report_25 : decode cX4_report 25 = .ok (.dup2, 1) := by decide +kernel
theorem dX4_report_26 : decode cX4_report 26 = .ok (.iaload, 1) := by decide +kernel
theorem dX4_report_27 : decode cX4_report 27 = .ok (.iconst 1, 1) := by decide +kernel
theorem dX4_report_28 : decode cX4_report 28 = .ok (.iadd, 1) := by decide +kernel
theorem dX4_report_29 : decode cX4_report 29 = .ok (.iastore, 1) := by decide +kernel
theorem dX4_report_30 : decode cX4_report 30 = .ok (.aload_n 0, 1) := by decide +kernel
theorem dX4_report_31 : decode cX4_report 31 = .ok (.iconst 5, 1) := by decide +kernel
theorem dX4_report_32 : decode cX4_report 32 = .ok (.aload_n 0, 1) := by decide +kernel
theorem dX4_report_33 : decode cX4_report 33 = .ok (.getfield 9, 3) := by decide +kernel
theorem dX4_report_36 : decode cX4_report 36 = .ok (.iconst 1, 1) := by decide +kernel
theorem dX4_report_37 : decode cX4_report 37 = .ok (.iaload, 1) := by decide +kernel
theorem dX4_report_38 : decode cX4_report 38 = .ok (.iconst (-1), 1) := by decide +kernel
theorem dX4_report_39 : decode cX4_report 39 = .ok (.invokevirtual 40, 3) := by decide +kernel
theorem dX4_report_42 : decode cX4_report 42 = .ok (.return_, 1) := by decide +kernel
theorem dX4_fact_0 : decode cX4_fact 0 = .ok (.aload_n 0, 1) := by decide +kernel
theorem dX4_fact_1 : decode cX4_fact 1 = .ok (.getfield 9, 3) := by decide +kernel
theorem dX4_fact_4 : decode cX4_fact 4 = .ok (.iload_n 1, 1) := by decide +kernel
theorem dX4_fact_5 : decode cX4_fact 5 = .ok (.invokestatic 44, 3) := by decide +kernel
theorem dX4_fact_8 : decode cX4_fact 8 = .ok (.ireturn, 1) := by decide +kernel
theorem dX4_innermost_0 : decode cX4_innermost 0 = .ok (.aload_n 0, 1) := by decide +kernel
theorem dX4_innermost_1 : decode cX4_innermost 1 = .ok (.getfield 37, 3) := by decide +kernel
theorem dX4_innermost_4 : decode cX4_innermost 4 = .ok (.ireturn, 1) := by decide +kernel
theorem dX4_tick_0 : decode cX4_tick 0 = .ok (.aload_n 0, 1) := by decide +kernel
theorem dX4_tick_1 : decode cX4_tick 1 = .ok (.getfield 9, 3) := by decide +kernel
theorem dX4_tick_4 : decode cX4_tick 4 = .ok (.iconst 4, 1) := by decide +kernel
theorem dX4_tick_5 : decode cX4_tick 5 = .ok (.iaload, 1) := by decide +kernel
theorem dX4_tick_6 : decode cX4_tick 6 = .ok (.bipush 40, 2) := by decide +kernel
theorem dX4_tick_8 : decode cX4_tick 8 = .ok (.if_icmp .lt 5, 3) := by decide +kernel
theorem dX4_tick_11 : decode cX4_tick 11 = .ok (.iconst 0, 1) := by decide +kernel
theorem dX4_tick_12 : decode cX4_tick 12 = .ok (.ireturn, 1) := by decide +kernel
theorem dX4_tick_13 : decode cX4_tick 13 = .ok (.aload_n 0, 1) := by decide +kernel
theorem dX4_tick_14 : decode cX4_tick 14 = .ok (.getfield 9, 3) := by decide +kernel
theorem dX4_tick_17 : decode cX4_tick 17 = .ok (.iconst 4, 1) := by decide +kernel
theorem dX4_tick_18 : decode cX4_tick 18 = .ok (.dup2, 1) := by decide +kernel
theorem dX4_tick_19 : decode cX4_tick 19 = .ok (.iaload, 1) := by decide +kernel
theorem dX4_tick_20 : decode cX4_tick 20 = .ok (.iconst 1, 1) := by decide +kernel
theorem dX4_tick_21 : decode cX4_tick 21 = .ok (.iadd, 1) := by decide +kernel
theorem dX4_tick_22 : decode cX4_tick 22 = .ok (.iastore, 1) := by decide +kernel
theorem dX4_tick_23 : decode cX4_tick 23 = .ok (.iconst 1, 1) := by decide +kernel
theorem dX4_tick_24 : decode cX4_tick 24 = .ok (.ireturn, 1) := by decide +kernel
theorem dX4_doorOpened_0 : decode cX4_doorOpened 0 = .ok (.aload_n 0, 1) := by decide +kernel
theorem dX4_doorOpened_1 : decode cX4_doorOpened 1 = .ok (.dup, 1) := by decide +kernel
theorem dX4_doorOpened_2 : decode cX4_doorOpened 2 = .ok (.getfield 31, 3) := by decide +kernel
theorem dX4_doorOpened_5 : decode cX4_doorOpened 5 = .ok (.iconst 1, 1) := by decide +kernel
theorem dX4_doorOpened_6 : decode cX4_doorOpened 6 = .ok (.iadd, 1) := by decide +kernel
theorem dX4_doorOpened_7 : decode cX4_doorOpened 7 = .ok (.putfield 31, 3) := by decide +kernel
theorem dX4_doorOpened_10 : decode cX4_doorOpened 10 = .ok (.aload_n 0, 1) := by decide +kernel
theorem dX4_doorOpened_11 : decode cX4_doorOpened 11 = .ok (.getfield 9, 3) := by decide +kernel
theorem dX4_doorOpened_14 : decode cX4_doorOpened 14 = .ok (.bipush 6, 2) := by decide +kernel
theorem dX4_doorOpened_16 : decode cX4_doorOpened 16 = .ok (.aload_n 0, 1) := by decide +kernel
theorem dX4_doorOpened_17 : decode cX4_doorOpened 17 = .ok (.getfield 9, 3) := by decide +kernel
theorem dX4_doorOpened_20 : decode cX4_doorOpened 20 = .ok (.bipush 6, 2) := by decide +kernel
theorem dX4_doorOpened_22 : decode cX4_doorOpened 22 = .ok (.iaload, 1) := by decide +kernel
theorem dX4_doorOpened_23 : decode cX4_doorOpened 23 = .ok (.aload_n 0, 1) := by decide +kernel
theorem dX4_doorOpened_24 : decode cX4_doorOpened 24 = .ok (.getfield 31, 3) := by decide +kernel
theorem dX4_doorOpened_27 : decode cX4_doorOpened 27 = .ok (.invokestatic 48, 3) := by decide +kernel
theorem dX4_doorOpened_30 : decode cX4_doorOpened 30 = .ok (.iastore, 1) := by decide +kernel
theorem dX4_doorOpened_31 : decode cX4_doorOpened 31 = .ok (.aload_n 0, 1) := by decide +kernel
theorem dX4_doorOpened_32 : decode cX4_doorOpened 32 = .ok (.bipush 10, 2) := by decide +kernel
theorem dX4_doorOpened_34 : decode cX4_doorOpened 34 = .ok (.iload_n 1, 1) := by decide +kernel
theorem dX4_doorOpened_35 : decode cX4_doorOpened 35 = .ok (.iadd, 1) := by decide +kernel
theorem dX4_doorOpened_36 : decode cX4_doorOpened 36 = .ok (.invokevirtual 54, 3) := by decide +kernel
theorem dX4_doorOpened_39 : decode cX4_doorOpened 39 = .ok (.return_, 1) := by decide +kernel
theorem dX4_doorShut_0 : decode cX4_doorShut 0 = .ok (.aload_n 0, 1) := by decide +kernel
theorem dX4_doorShut_1 : decode cX4_doorShut 1 = .ok (.dup, 1) := by decide +kernel
theorem dX4_doorShut_2 : decode cX4_doorShut 2 = .ok (.getfield 31, 3) := by decide +kernel
theorem dX4_doorShut_5 : decode cX4_doorShut 5 = .ok (.iconst 1, 1) := by decide +kernel
theorem dX4_doorShut_6 : decode cX4_doorShut 6 = .ok (.isub, 1) := by decide +kernel
theorem dX4_doorShut_7 : decode cX4_doorShut 7 = .ok (.putfield 31, 3) := by decide +kernel
theorem dX4_doorShut_10 : decode cX4_doorShut 10 = .ok (.aload_n 0, 1) := by decide +kernel
theorem dX4_doorShut_11 : decode cX4_doorShut 11 = .ok (.bipush 20, 2) := by decide +kernel
theorem dX4_doorShut_13 : decode cX4_doorShut 13 = .ok (.iload_n 1, 1) := by decide +kernel
theorem dX4_doorShut_14 : decode cX4_doorShut 14 = .ok (.iadd, 1) := by decide +kernel
theorem dX4_doorShut_15 : decode cX4_doorShut 15 = .ok (.invokevirtual 54, 3) := by decide +kernel
theorem dX4_doorShut_18 : decode cX4_doorShut 18 = .ok (.return_, 1) := by decide +kernel
theorem dX4_doorsOpen_0 : decode cX4_doorsOpen 0 = .ok (.aload_n 0, 1) := by decide +kernel
theorem dX4_doorsOpen_1 : decode cX4_doorsOpen 1 = .ok (.getfield 31, 3) := by decide +kernel
theorem dX4_doorsOpen_4 : decode cX4_doorsOpen 4 = .ok (.ireturn, 1) := by decide +kernel
theorem dX4_write_0 : decode cX4_write 0 = .ok (.aload_n 0, 1) := by decide +kernel
theorem dX4_write_1 : decode cX4_write 1 = .ok (.getfield 27, 3) := by decide +kernel
theorem dX4_write_4 : decode cX4_write 4 = .ok (.sipush 150, 3) := by decide +kernel
theorem dX4_write_7 : decode cX4_write 7 = .ok (.if_icmp .ge 23, 3) := by decide +kernel
theorem dX4_write_10 : decode cX4_write 10 = .ok (.aload_n 0, 1) := by decide +kernel
theorem dX4_write_11 : decode cX4_write 11 = .ok (.getfield 15, 3) := by decide +kernel
theorem dX4_write_14 : decode cX4_write 14 = .ok (.aload_n 0, 1) := by decide +kernel
theorem dX4_write_15 : decode cX4_write 15 = .ok (.getfield 27, 3) := by decide +kernel
theorem dX4_write_18 : decode cX4_write 18 = .ok (.iload_n 1, 1) := by decide +kernel
theorem dX4_write_19 : decode cX4_write 19 = .ok (.iastore, 1) := by decide +kernel
theorem dX4_write_20 : decode cX4_write 20 = .ok (.aload_n 0, 1) := by decide +kernel
theorem dX4_write_21 : decode cX4_write 21 = .ok (.dup, 1) := by decide +kernel
theorem dX4_write_22 : decode cX4_write 22 = .ok (.getfield 27, 3) := by decide +kernel
theorem dX4_write_25 : decode cX4_write 25 = .ok (.iconst 1, 1) := by decide +kernel
theorem dX4_write_26 : decode cX4_write 26 = .ok (.iadd, 1) := by decide +kernel
theorem dX4_write_27 : decode cX4_write 27 = .ok (.putfield 27, 3) := by decide +kernel
theorem dX4_write_30 : decode cX4_write 30 = .ok (.return_, 1) := by decide +kernel
theorem dX4_written_0 : decode cX4_written 0 = .ok (.aload_n 0, 1) := by decide +kernel
theorem dX4_written_1 : decode cX4_written 1 = .ok (.getfield 27, 3) := by decide +kernel
theorem dX4_written_4 : decode cX4_written 4 = .ok (.ireturn, 1) := by decide +kernel
theorem dX4_entry_0 : decode cX4_entry 0 = .ok (.aload_n 0, 1) := by decide +kernel
theorem dX4_entry_1 : decode cX4_entry 1 = .ok (.getfield 15, 3) := by decide +kernel
theorem dX4_entry_4 : decode cX4_entry 4 = .ok (.iload_n 1, 1) := by decide +kernel
theorem dX4_entry_5 : decode cX4_entry 5 = .ok (.invokestatic 44, 3) := by decide +kernel
theorem dX4_entry_8 : decode cX4_entry 8 = .ok (.ireturn, 1) := by decide +kernel
theorem dX4_close_0 : decode cX4_close 0 = .ok (.aload_n 0, 1) := by decide +kernel
theorem dX4_close_1 : decode cX4_close 1 = .ok (.getfield 9, 3) := by decide +kernel
theorem dX4_close_4 : decode cX4_close 4 = .ok (.iconst 5, 1) := by decide +kernel
theorem dX4_close_5 : decode cX4_close 5 = .ok (.iload_n 1, 1) := by decide +kernel
theorem dX4_close_6 : decode cX4_close 6 = .ok (.iastore, 1) := by decide +kernel
theorem dX4_close_7 : decode cX4_close 7 = .ok (.return_, 1) := by decide +kernel
theorem dX5_init_0 : decode cX5_init 0 = .ok (.aload_n 0, 1) := by decide +kernel
theorem dX5_init_1 : decode cX5_init 1 = .ok (.invokespecial 3, 3) := by decide +kernel
theorem dX5_init_4 : decode cX5_init 4 = .ok (.aload_n 0, 1) := by decide +kernel
theorem dX5_init_5 : decode cX5_init 5 = .ok (.new 9, 3) := by decide +kernel
theorem dX5_init_8 : decode cX5_init 8 = .ok (.dup, 1) := by decide +kernel
theorem dX5_init_9 : decode cX5_init 9 = .ok (.invokespecial 11, 3) := by decide +kernel
theorem dX5_init_12 : decode cX5_init 12 = .ok (.putfield 12, 3) := by decide +kernel
theorem dX5_init_15 : decode cX5_init 15 = .ok (.aload_n 0, 1) := by decide +kernel
theorem dX5_init_16 : decode cX5_init 16 = .ok (.new 9, 3) := by decide +kernel
theorem dX5_init_19 : decode cX5_init 19 = .ok (.dup, 1) := by decide +kernel
theorem dX5_init_20 : decode cX5_init 20 = .ok (.invokespecial 11, 3) := by decide +kernel
theorem dX5_init_23 : decode cX5_init 23 = .ok (.putfield 16, 3) := by decide +kernel
theorem dX5_init_26 : decode cX5_init 26 = .ok (.aload_n 0, 1) := by decide +kernel
theorem dX5_init_27 : decode cX5_init 27 = .ok (.new 19, 3) := by decide +kernel
theorem dX5_init_30 : decode cX5_init 30 = .ok (.dup, 1) := by decide +kernel
theorem dX5_init_31 : decode cX5_init 31 = .ok (.invokespecial 21, 3) := by decide +kernel
theorem dX5_init_34 : decode cX5_init 34 = .ok (.putfield 22, 3) := by decide +kernel
theorem dX5_init_37 : decode cX5_init 37 = .ok (.aload_n 0, 1) := by decide +kernel
theorem dX5_init_38 : decode cX5_init 38 = .ok (.new 26, 3) := by decide +kernel
theorem dX5_init_41 : decode cX5_init 41 = .ok (.dup, 1) := by decide +kernel
theorem dX5_init_42 : decode cX5_init 42 = .ok (.invokespecial 28, 3) := by decide +kernel
theorem dX5_init_45 : decode cX5_init 45 = .ok (.putfield 29, 3) := by decide +kernel
theorem dX5_init_48 : decode cX5_init 48 = .ok (.aload_n 0, 1) := by decide +kernel
theorem dX5_init_49 : decode cX5_init 49 = .ok (.new 33, 3) := by decide +kernel
theorem dX5_init_52 : decode cX5_init 52 = .ok (.dup, 1) := by decide +kernel
theorem dX5_init_53 : decode cX5_init 53 = .ok (.invokespecial 35, 3) := by decide +kernel
theorem dX5_init_56 : decode cX5_init 56 = .ok (.putfield 36, 3) := by decide +kernel
theorem dX5_init_59 : decode cX5_init 59 = .ok (.aload_n 0, 1) := by decide +kernel
theorem dX5_init_60 : decode cX5_init 60 = .ok (.new 33, 3) := by decide +kernel
theorem dX5_init_63 : decode cX5_init 63 = .ok (.dup, 1) := by decide +kernel
theorem dX5_init_64 : decode cX5_init 64 = .ok (.invokespecial 35, 3) := by decide +kernel
theorem dX5_init_67 : decode cX5_init 67 = .ok (.putfield 40, 3) := by decide +kernel
theorem dX5_init_70 : decode cX5_init 70 = .ok (.aload_n 0, 1) := by decide +kernel
theorem dX5_init_71 : decode cX5_init 71 = .ok (.new 43, 3) := by decide +kernel
theorem dX5_init_74 : decode cX5_init 74 = .ok (.dup, 1) := by decide +kernel
theorem dX5_init_75 : decode cX5_init 75 = .ok (.aload_n 0, 1) := by decide +kernel
theorem dX5_init_76 : decode cX5_init 76 = .ok (.getfield 29, 3) := by decide +kernel
theorem dX5_init_79 : decode cX5_init 79 = .ok (.aload_n 0, 1) := by decide +kernel
theorem dX5_init_80 : decode cX5_init 80 = .ok (.getfield 12, 3) := by decide +kernel
theorem dX5_init_83 : decode cX5_init 83 = .ok (.aload_n 0, 1) := by decide +kernel
theorem dX5_init_84 : decode cX5_init 84 = .ok (.getfield 36, 3) := by decide +kernel
theorem dX5_init_87 : decode cX5_init 87 = .ok (.invokespecial 45, 3) := by decide +kernel
theorem dX5_init_90 : decode cX5_init 90 = .ok (.putfield 48, 3) := by decide +kernel
theorem dX5_init_93 : decode cX5_init 93 = .ok (.return_, 1) := by decide +kernel
theorem dX5_sets_0 : decode cX5_sets 0 = .ok (.iload_n 1, 1) := by decide +kernel
theorem dX5_sets_1 : decode cX5_sets 1 = .ok (.invokestatic 52, 3) := by decide +kernel
theorem dX5_sets_4 : decode cX5_sets 4 = .ok (.ifCond .eq 27, 3) := by decide +kernel
theorem dX5_sets_7 : decode cX5_sets 7 = .ok (.iload_n 2, 1) := by decide +kernel
theorem dX5_sets_8 : decode cX5_sets 8 = .ok (.iconst 0, 1) := by decide +kernel
theorem dX5_sets_9 : decode cX5_sets 9 = .ok (.iconst 3, 1) := by decide +kernel
theorem dX5_sets_10 : decode cX5_sets 10 = .ok (.invokestatic 56, 3) := by decide +kernel
theorem dX5_sets_13 : decode cX5_sets 13 = .ok (.ifCond .eq 18, 3) := by decide +kernel
theorem dX5_sets_16 : decode cX5_sets 16 = .ok (.iload_n 3, 1) := by decide +kernel
theorem dX5_sets_17 : decode cX5_sets 17 = .ok (.iconst 0, 1) := by decide +kernel
theorem dX5_sets_18 : decode cX5_sets 18 = .ok (.getstatic 60, 3) := by decide +kernel
theorem dX5_sets_21 : decode cX5_sets 21 = .ok (.iload_n 2, 1) := by decide +kernel
theorem dX5_sets_22 : decode cX5_sets 22 = .ok (.invokestatic 64, 3) := by decide +kernel
theorem dX5_sets_25 : decode cX5_sets 25 = .ok (.invokestatic 56, 3) := by decide +kernel
theorem dX5_sets_28 : decode cX5_sets 28 = .ok (.ifCond .ne 10, 3) := by decide +kernel
theorem dX5_sets_31 : decode cX5_sets 31 = .ok (.aload_n 0, 1) := by decide +kernel
theorem dX5_sets_32 : decode cX5_sets 32 = .ok (.bipush (-2), 2) := by decide +kernel
theorem dX5_sets_34 : decode cX5_sets 34 = .ok (.invokevirtual 68, 3) := by decide +kernel
theorem dX5_sets_37 : decode cX5_sets 37 = .ok (.ireturn, 1) := by decide +kernel
theorem dX5_sets_38 : decode cX5_sets 38 = .ok (.aload_n 0, 1) := by decide +kernel
theorem dX5_sets_39 : decode cX5_sets 39 = .ok (.getfield 12, 3) := by decide +kernel
theorem dX5_sets_42 : decode cX5_sets 42 = .ok (.iload_n 1, 1) := by decide +kernel
theorem dX5_sets_43 : decode cX5_sets 43 = .ok (.iload_n 2, 1) := by decide +kernel
theorem dX5_sets_44 : decode cX5_sets 44 = .ok (.invokevirtual 72, 3) := by decide +kernel
theorem dX5_sets_47 : decode cX5_sets 47 = .ok (.istore 4, 2) := by decide +kernel
theorem dX5_sets_49 : decode cX5_sets 49 = .ok (.aload_n 0, 1) := by decide +kernel
theorem dX5_sets_50 : decode cX5_sets 50 = .ok (.getfield 22, 3) := by decide +kernel
theorem dX5_sets_53 : decode cX5_sets 53 = .ok (.aload_n 0, 1) := by decide +kernel
theorem dX5_sets_54 : decode cX5_sets 54 = .ok (.getfield 12, 3) := by decide +kernel
theorem dX5_sets_57 : decode cX5_sets 57 = .ok (.invokevirtual 76, 3) := by decide +kernel
theorem dX5_sets_60 : decode cX5_sets 60 = .ok (.aload_n 0, 1) := by decide +kernel
theorem dX5_sets_61 : decode cX5_sets 61 = .ok (.getfield 12, 3) := by decide +kernel
theorem dX5_sets_64 : decode cX5_sets 64 = .ok (.iload_n 1, 1) := by decide +kernel
theorem dX5_sets_65 : decode cX5_sets 65 = .ok (.iload_n 2, 1) := by decide +kernel
theorem dX5_sets_66 : decode cX5_sets 66 = .ok (.iload_n 3, 1) := by decide +kernel
theorem dX5_sets_67 : decode cX5_sets 67 = .ok (.invokevirtual 80, 3) := by decide +kernel
theorem dX5_sets_70 : decode cX5_sets 70 = .ok (.iload 4, 2) := by decide +kernel
theorem dX5_sets_72 : decode cX5_sets 72 = .ok (.ireturn, 1) := by decide +kernel
theorem dX5_of_0 : decode cX5_of 0 = .ok (.iload_n 1, 1) := by decide +kernel
theorem dX5_of_1 : decode cX5_of 1 = .ok (.invokestatic 52, 3) := by decide +kernel
theorem dX5_of_4 : decode cX5_of 4 = .ok (.ifCond .eq 13, 3) := by decide +kernel
theorem dX5_of_7 : decode cX5_of 7 = .ok (.iload_n 2, 1) := by decide +kernel
theorem dX5_of_8 : decode cX5_of 8 = .ok (.iconst 0, 1) := by decide +kernel
theorem dX5_of_9 : decode cX5_of 9 = .ok (.bipush 7, 2) := by decide +kernel
theorem dX5_of_11 : decode cX5_of 11 = .ok (.invokestatic 56, 3) := by decide +kernel
theorem dX5_of_14 : decode cX5_of 14 = .ok (.ifCond .ne 10, 3) := by decide +kernel
theorem dX5_of_17 : decode cX5_of 17 = .ok (.aload_n 0, 1) := by decide +kernel
theorem dX5_of_18 : decode cX5_of 18 = .ok (.bipush (-2), 2) := by decide +kernel
theorem dX5_of_20 : decode cX5_of 20 = .ok (.invokevirtual 68, 3) := by decide +kernel
theorem dX5_of_23 : decode cX5_of 23 = .ok (.ireturn, 1) := by decide +kernel
theorem dX5_of_24 : decode cX5_of 24 = .ok (.iload_n 2, 1) := by decide +kernel
theorem dX5_of_25 : decode cX5_of 25 = .ok (.bipush 7, 2) := by decide +kernel
theorem dX5_of_27 : decode cX5_of 27 = .ok (.if_icmp .ne 14, 3) := by decide +kernel
theorem dX5_of_30 : decode cX5_of 30 = .ok (.aload_n 0, 1) := by decide +kernel
theorem dX5_of_31 : decode cX5_of 31 = .ok (.getfield 12, 3) := by decide +kernel
theorem dX5_of_34 : decode cX5_of 34 = .ok (.iload_n 1, 1) := by decide +kernel
theorem dX5_of_35 : decode cX5_of 35 = .ok (.invokevirtual 84, 3) := by decide +kernel
theorem dX5_of_38 : decode cX5_of 38 = .ok (.goto 12, 3) := by decide +kernel
theorem dX5_of_41 : decode cX5_of 41 = .ok (.aload_n 0, 1) := by decide +kernel
theorem dX5_of_42 : decode cX5_of 42 = .ok (.getfield 12, 3) := by decide +kernel
theorem dX5_of_45 : decode cX5_of 45 = .ok (.iload_n 1, 1) := by decide +kernel
theorem dX5_of_46 : decode cX5_of 46 = .ok (.iload_n 2, 1) := by decide +kernel
theorem dX5_of_47 : decode cX5_of 47 = .ok (.invokevirtual 72, 3) := by decide +kernel
theorem dX5_of_50 : decode cX5_of 50 = .ok (.ireturn, 1) := by decide +kernel
theorem dX5_keys_0 : decode cX5_keys 0 = .ok (.iload_n 1, 1) := by decide +kernel
theorem dX5_keys_1 : decode cX5_keys 1 = .ok (.iconst 0, 1) := by decide +kernel
theorem dX5_keys_2 : decode cX5_keys 2 = .ok (.bipush 14, 2) := by decide +kernel
theorem dX5_keys_4 : decode cX5_keys 4 = .ok (.invokestatic 56, 3) := by decide +kernel
theorem dX5_keys_7 : decode cX5_keys 7 = .ok (.ifCond .eq 9, 3) := by decide +kernel
theorem dX5_keys_10 : decode cX5_keys 10 = .ok (.iload_n 1, 1) := by decide +kernel
theorem dX5_keys_11 : decode cX5_keys 11 = .ok (.iconst 1, 1) := by decide +kernel
theorem dX5_keys_12 : decode cX5_keys 12 = .ok (.iand, 1) := by decide +kernel
theorem dX5_keys_13 : decode cX5_keys 13 = .ok (.ifCond .eq 10, 3) := by decide +kernel
theorem dX5_keys_16 : decode cX5_keys 16 = .ok (.aload_n 0, 1) := by decide +kernel
theorem dX5_keys_17 : decode cX5_keys 17 = .ok (.bipush (-2), 2) := by decide +kernel
theorem dX5_keys_19 : decode cX5_keys 19 = .ok (.invokevirtual 68, 3) := by decide +kernel
theorem dX5_keys_22 : decode cX5_keys 22 = .ok (.ireturn, 1) := by decide +kernel
theorem dX5_keys_23 : decode cX5_keys 23 = .ok (.aload_n 0, 1) := by decide +kernel
theorem dX5_keys_24 : decode cX5_keys 24 = .ok (.getfield 12, 3) := by decide +kernel
theorem dX5_keys_27 : decode cX5_keys 27 = .ok (.invokevirtual 87, 3) := by decide +kernel
theorem dX5_keys_30 : decode cX5_keys 30 = .ok (.istore_n 2, 1) := by decide +kernel
theorem dX5_keys_31 : decode cX5_keys 31 = .ok (.aload_n 0, 1) := by decide +kernel
theorem dX5_keys_32 : decode cX5_keys 32 = .ok (.getfield 22, 3) := by decide +kernel
theorem dX5_keys_35 : decode cX5_keys 35 = .ok (.aload_n 0, 1) := by decide +kernel
theorem dX5_keys_36 : decode cX5_keys 36 = .ok (.getfield 12, 3) := by decide +kernel
theorem dX5_keys_39 : decode cX5_keys 39 = .ok (.invokevirtual 76, 3) := by decide +kernel
theorem dX5_keys_42 : decode cX5_keys 42 = .ok (.aload_n 0, 1) := by decide +kernel
theorem dX5_keys_43 : decode cX5_keys 43 = .ok (.getfield 12, 3) := by decide +kernel
theorem dX5_keys_46 : decode cX5_keys 46 = .ok (.iload_n 1, 1) := by decide +kernel
theorem dX5_keys_47 : decode cX5_keys 47 = .ok (.invokevirtual 91, 3) := by decide +kernel
theorem dX5_keys_50 : decode cX5_keys 50 = .ok (.iload_n 2, 1) := by decide +kernel
theorem dX5_keys_51 : decode cX5_keys 51 = .ok (.ireturn, 1) := by decide +kernel
theorem dX5_dusk_0 : decode cX5_dusk 0 = .ok (.aload_n 0, 1) := by decide +kernel
theorem dX5_dusk_1 : decode cX5_dusk 1 = .ok (.getfield 12, 3) := by decide +kernel
theorem dX5_dusk_4 : decode cX5_dusk 4 = .ok (.iconst 4, 1) := by decide +kernel
theorem dX5_dusk_5 : decode cX5_dusk 5 = .ok (.invokevirtual 95, 3) := by decide +kernel
theorem dX5_dusk_8 : decode cX5_dusk 8 = .ok (.istore_n 1, 1) := by decide +kernel
theorem dX5_dusk_9 : decode cX5_dusk 9 = .ok (.aload_n 0, 1) := by decide +kernel
theorem dX5_dusk_10 : decode cX5_dusk 10 = .ok (.getfield 22, 3) := by decide +kernel
theorem dX5_dusk_13 : decode cX5_dusk 13 = .ok (.aload_n 0, 1) := by decide +kernel
theorem dX5_dusk_14 : decode cX5_dusk 14 = .ok (.getfield 12, 3) := by decide +kernel
theorem dX5_dusk_17 : decode cX5_dusk 17 = .ok (.invokevirtual 76, 3) := by decide +kernel
theorem dX5_dusk_20 : decode cX5_dusk 20 = .ok (.aload_n 0, 1) := by decide +kernel
theorem dX5_dusk_21 : decode cX5_dusk 21 = .ok (.getfield 12, 3) := by decide +kernel
theorem dX5_dusk_24 : decode cX5_dusk 24 = .ok (.invokevirtual 98, 3) := by decide +kernel
theorem dX5_dusk_27 : decode cX5_dusk 27 = .ok (.iload_n 1, 1) := by decide +kernel
theorem dX5_dusk_28 : decode cX5_dusk 28 = .ok (.ireturn, 1) := by decide +kernel
theorem dX5_type_0 : decode cX5_type 0 = .ok (.iload_n 1, 1) := by decide +kernel
theorem dX5_type_1 : decode cX5_type 1 = .ok (.iconst 0, 1) := by decide +kernel
theorem dX5_type_2 : decode cX5_type 2 = .ok (.bipush 127, 2) := by decide +kernel
theorem dX5_type_4 : decode cX5_type 4 = .ok (.invokestatic 56, 3) := by decide +kernel
theorem dX5_type_7 : decode cX5_type 7 = .ok (.ifCond .ne 10, 3) := by decide +kernel
theorem dX5_type_10 : decode cX5_type 10 = .ok (.aload_n 0, 1) := by decide +kernel
theorem dX5_type_11 : decode cX5_type 11 = .ok (.bipush (-2), 2) := by decide +kernel
theorem dX5_type_13 : decode cX5_type 13 = .ok (.invokevirtual 68, 3) := by decide +kernel
theorem dX5_type_16 : decode cX5_type 16 = .ok (.ireturn, 1) := by decide +kernel
theorem dX5_type_17 : decode cX5_type 17 = .ok (.aload_n 0, 1) := by decide +kernel
theorem dX5_type_18 : decode cX5_type 18 = .ok (.getfield 29, 3) := by decide +kernel
theorem dX5_type_21 : decode cX5_type 21 = .ok (.invokevirtual 101, 3) := by decide +kernel
theorem dX5_type_24 : decode cX5_type 24 = .ok (.bipush 100, 2) := by decide +kernel
theorem dX5_type_26 : decode cX5_type 26 = .ok (.if_icmp .lt 10, 3) := by decide +kernel
theorem dX5_type_29 : decode cX5_type 29 = .ok (.aload_n 0, 1) := by decide +kernel
theorem dX5_type_30 : decode cX5_type 30 = .ok (.bipush (-4), 2) := by decide +kernel
theorem dX5_type_32 : decode cX5_type 32 = .ok (.invokevirtual 68, 3) := by decide +kernel
theorem dX5_type_35 : decode cX5_type 35 = .ok (.ireturn, 1) := by decide +kernel
theorem dX5_type_36 : decode cX5_type 36 = .ok (.aload_n 0, 1) := by decide +kernel
theorem dX5_type_37 : decode cX5_type 37 = .ok (.getfield 29, 3) := by decide +kernel
theorem dX5_type_40 : decode cX5_type 40 = .ok (.iload_n 1, 1) := by decide +kernel
theorem dX5_type_41 : decode cX5_type 41 = .ok (.invokevirtual 104, 3) := by decide +kernel
theorem dX5_type_44 : decode cX5_type 44 = .ok (.aload_n 0, 1) := by decide +kernel
theorem dX5_type_45 : decode cX5_type 45 = .ok (.getfield 29, 3) := by decide +kernel
theorem dX5_type_48 : decode cX5_type 48 = .ok (.invokevirtual 101, 3) := by decide +kernel
theorem dX5_type_51 : decode cX5_type 51 = .ok (.ireturn, 1) := by decide +kernel
theorem dX5_clear_0 : decode cX5_clear 0 = .ok (.aload_n 0, 1) := by decide +kernel
theorem dX5_clear_1 : decode cX5_clear 1 = .ok (.getfield 29, 3) := by decide +kernel
theorem dX5_clear_4 : decode cX5_clear 4 = .ok (.invokevirtual 101, 3) := by decide +kernel
theorem dX5_clear_7 : decode cX5_clear 7 = .ok (.istore_n 1, 1) := by decide +kernel
theorem dX5_clear_8 : decode cX5_clear 8 = .ok (.aload_n 0, 1) := by decide +kernel
theorem dX5_clear_9 : decode cX5_clear 9 = .ok (.getfield 29, 3) := by decide +kernel
theorem dX5_clear_12 : decode cX5_clear 12 = .ok (.invokevirtual 107, 3) := by decide +kernel
theorem dX5_clear_15 : decode cX5_clear 15 = .ok (.iload_n 1, 1) := by decide +kernel
theorem dX5_clear_16 : decode cX5_clear 16 = .ok (.ireturn, 1) := by decide +kernel
theorem dX5_goes_0 : decode cX5_goes 0 = .ok (.aload_n 0, 1) := by decide +kernel
theorem dX5_goes_1 : decode cX5_goes 1 = .ok (.getfield 29, 3) := by decide +kernel
theorem dX5_goes_4 : decode cX5_goes 4 = .ok (.invokevirtual 110, 3) := by decide +kernel
theorem dX5_goes_7 : decode cX5_goes 7 = .ok (.istore_n 1, 1) := by decide +kernel
theorem dX5_goes_8 : decode cX5_goes 8 = .ok (.iload_n 1, 1) := by decide +kernel
theorem dX5_goes_9 : decode cX5_goes 9 = .ok (.iconst (-1), 1) := by decide +kernel
theorem dX5_goes_10 : decode cX5_goes 10 = .ok (.if_icmp .eq 8, 3) := by decide +kernel
theorem dX5_goes_13 : decode cX5_goes 13 = .ok (.bipush (-10), 2) := by decide +kernel
theorem dX5_goes_15 : decode cX5_goes 15 = .ok (.iload_n 1, 1) := by decide +kernel
theorem dX5_goes_16 : decode cX5_goes 16 = .ok (.isub, 1) := by decide +kernel
theorem dX5_goes_17 : decode cX5_goes 17 = .ok (.ireturn, 1) := by decide +kernel
theorem dX5_goes_18 : decode cX5_goes 18 = .ok (.aload_n 0, 1) := by decide +kernel
theorem dX5_goes_19 : decode cX5_goes 19 = .ok (.getfield 22, 3) := by decide +kernel
theorem dX5_goes_22 : decode cX5_goes 22 = .ok (.aload_n 0, 1) := by decide +kernel
theorem dX5_goes_23 : decode cX5_goes 23 = .ok (.getfield 12, 3) := by decide +kernel
theorem dX5_goes_26 : decode cX5_goes 26 = .ok (.invokevirtual 76, 3) := by decide +kernel
theorem dX5_goes_29 : decode cX5_goes 29 = .ok (.aload_n 0, 1) := by decide +kernel
theorem dX5_goes_30 : decode cX5_goes 30 = .ok (.getfield 48, 3) := by decide +kernel
theorem dX5_goes_33 : decode cX5_goes 33 = .ok (.aload_n 0, 1) := by decide +kernel
theorem dX5_goes_34 : decode cX5_goes 34 = .ok (.getfield 12, 3) := by decide +kernel
theorem dX5_goes_37 : decode cX5_goes 37 = .ok (.aload_n 0, 1) := by decide +kernel
theorem dX5_goes_38 : decode cX5_goes 38 = .ok (.getfield 36, 3) := by decide +kernel
theorem dX5_goes_41 : decode cX5_goes 41 = .ok (.invokevirtual 113, 3) := by decide +kernel
theorem dX5_goes_44 : decode cX5_goes 44 = .ok (.ireturn, 1) := by decide +kernel
theorem dX5_tries_0 : decode cX5_tries 0 = .ok (.aload_n 0, 1) := by decide +kernel
theorem dX5_tries_1 : decode cX5_tries 1 = .ok (.getfield 29, 3) := by decide +kernel
theorem dX5_tries_4 : decode cX5_tries 4 = .ok (.invokevirtual 110, 3) := by decide +kernel
theorem dX5_tries_7 : decode cX5_tries 7 = .ok (.istore_n 1, 1) := by decide +kernel
theorem dX5_tries_8 : decode cX5_tries 8 = .ok (.iload_n 1, 1) := by decide +kernel
theorem dX5_tries_9 : decode cX5_tries 9 = .ok (.iconst (-1), 1) := by decide +kernel
theorem dX5_tries_10 : decode cX5_tries 10 = .ok (.if_icmp .eq 8, 3) := by decide +kernel
theorem dX5_tries_13 : decode cX5_tries 13 = .ok (.bipush (-10), 2) := by decide +kernel
theorem dX5_tries_15 : decode cX5_tries 15 = .ok (.iload_n 1, 1) := by decide +kernel
theorem dX5_tries_16 : decode cX5_tries 16 = .ok (.isub, 1) := by decide +kernel
theorem dX5_tries_17 : decode cX5_tries 17 = .ok (.ireturn, 1) := by decide +kernel
theorem dX5_tries_18 : decode cX5_tries 18 = .ok (.aload_n 0, 1) := by decide +kernel
theorem dX5_tries_19 : decode cX5_tries 19 = .ok (.getfield 16, 3) := by decide +kernel
theorem dX5_tries_22 : decode cX5_tries 22 = .ok (.aload_n 0, 1) := by decide +kernel
theorem dX5_tries_23 : decode cX5_tries 23 = .ok (.getfield 12, 3) := by decide +kernel
theorem dX5_tries_26 : decode cX5_tries 26 = .ok (.invokevirtual 117, 3) := by decide +kernel
theorem dX5_tries_29 : decode cX5_tries 29 = .ok (.aload_n 0, 1) := by decide +kernel
theorem dX5_tries_30 : decode cX5_tries 30 = .ok (.getfield 48, 3) := by decide +kernel
theorem dX5_tries_33 : decode cX5_tries 33 = .ok (.aload_n 0, 1) := by decide +kernel
theorem dX5_tries_34 : decode cX5_tries 34 = .ok (.getfield 16, 3) := by decide +kernel
theorem dX5_tries_37 : decode cX5_tries 37 = .ok (.aload_n 0, 1) := by decide +kernel
theorem dX5_tries_38 : decode cX5_tries 38 = .ok (.getfield 36, 3) := by decide +kernel
theorem dX5_tries_41 : decode cX5_tries 41 = .ok (.invokevirtual 113, 3) := by decide +kernel
theorem dX5_tries_44 : decode cX5_tries 44 = .ok (.ireturn, 1) := by decide +kernel
theorem dX5_often_0 : decode cX5_often 0 = .ok (.iload_n 1, 1) := by decide +kernel
theorem dX5_often_1 : decode cX5_often 1 = .ok (.iconst 1, 1) := by decide +kernel
theorem dX5_often_2 : decode cX5_often 2 = .ok (.iconst 3, 1) := by decide +kernel
theorem dX5_often_3 : decode cX5_often 3 = .ok (.invokestatic 56, 3) := by decide +kernel
theorem dX5_often_6 : decode cX5_often 6 = .ok (.ifCond .ne 10, 3) := by decide +kernel
theorem dX5_often_9 : decode cX5_often 9 = .ok (.aload_n 0, 1) := by decide +kernel
theorem dX5_often_10 : decode cX5_often 10 = .ok (.bipush (-2), 2) := by decide +kernel
theorem dX5_often_12 : decode cX5_often 12 = .ok (.invokevirtual 68, 3) := by decide +kernel
theorem dX5_often_15 : decode cX5_often 15 = .ok (.ireturn, 1) := by decide +kernel
theorem dX5_often_16 : decode cX5_often 16 = .ok (.aload_n 0, 1) := by decide +kernel
theorem dX5_often_17 : decode cX5_often 17 = .ok (.getfield 29, 3) := by decide +kernel
theorem dX5_often_20 : decode cX5_often 20 = .ok (.invokevirtual 110, 3) := by decide +kernel
theorem dX5_often_23 : decode cX5_often 23 = .ok (.istore_n 2, 1) := by decide +kernel
theorem dX5_often_24 : decode cX5_often 24 = .ok (.iload_n 2, 1) := by decide +kernel
theorem dX5_often_25 : decode cX5_often 25 = .ok (.iconst (-1), 1) := by decide +kernel
theorem dX5_often_26 : decode cX5_often 26 = .ok (.if_icmp .eq 8, 3) := by decide +kernel
theorem dX5_often_29 : decode cX5_often 29 = .ok (.bipush (-10), 2) := by decide +kernel
theorem dX5_often_31 : decode cX5_often 31 = .ok (.iload_n 2, 1) := by decide +kernel
theorem dX5_often_32 : decode cX5_often 32 = .ok (.isub, 1) := by decide +kernel
theorem dX5_often_33 : decode cX5_often 33 = .ok (.ireturn, 1) := by decide +kernel
theorem dX5_often_34 : decode cX5_often 34 = .ok (.aload_n 0, 1) := by decide +kernel
theorem dX5_often_35 : decode cX5_often 35 = .ok (.getfield 22, 3) := by decide +kernel
theorem dX5_often_38 : decode cX5_often 38 = .ok (.aload_n 0, 1) := by decide +kernel
theorem dX5_often_39 : decode cX5_often 39 = .ok (.getfield 12, 3) := by decide +kernel
theorem dX5_often_42 : decode cX5_often 42 = .ok (.invokevirtual 76, 3) := by decide +kernel
theorem dX5_often_45 : decode cX5_often 45 = .ok (.iconst 0, 1) := by decide +kernel
theorem dX5_often_46 : decode cX5_often 46 = .ok (.istore_n 3, 1) := by decide +kernel
theorem dX5_often_47 : decode cX5_often 47 = .ok (.iconst 0, 1) := by decide +kernel
theorem dX5_often_48 : decode cX5_often 48 = .ok (.istore 4, 2) := by decide +kernel
theorem dX5_often_50 : decode cX5_often 50 = .ok (.iload 4, 2) := by decide +kernel
theorem dX5_often_52 : decode cX5_often 52 = .ok (.iload_n 1, 1) := by decide +kernel
theorem dX5_often_53 : decode cX5_often 53 = .ok (.if_icmp .ge 36, 3) := by decide +kernel
theorem dX5_often_56 : decode cX5_often 56 = .ok (.iload_n 3, 1) := by decide +kernel
theorem dX5_often_57 : decode cX5_often 57 = .ok (.iload 4, 2) := by decide +kernel
theorem dX5_often_59 : decode cX5_often 59 = .ok (.if_icmp .ne 30, 3) := by decide +kernel
theorem dX5_often_62 : decode cX5_often 62 = .ok (.aload_n 0, 1) := by decide +kernel
theorem dX5_often_63 : decode cX5_often 63 = .ok (.getfield 48, 3) := by decide +kernel
theorem dX5_often_66 : decode cX5_often 66 = .ok (.aload_n 0, 1) := by decide +kernel
theorem dX5_often_67 : decode cX5_often 67 = .ok (.getfield 12, 3) := by decide +kernel
theorem dX5_often_70 : decode cX5_often 70 = .ok (.aload_n 0, 1) := by decide +kernel
theorem dX5_often_71 : decode cX5_often 71 = .ok (.getfield 36, 3) := by decide +kernel
theorem dX5_often_74 : decode cX5_often 74 = .ok (.invokevirtual 113, 3) := by decide +kernel
theorem dX5_often_77 : decode cX5_often 77 = .ok (.ifCond .ne 6, 3) := by decide +kernel
theorem dX5_often_80 : decode cX5_often 80 = .ok (.iinc 3 1, 3) := by decide +kernel
theorem dX5_often_83 : decode cX5_often 83 = .ok (.iinc 4 1, 3) := by decide +kernel
theorem dX5_often_86 : decode cX5_often 86 = .ok (.goto (-36), 3) := by decide +kernel
theorem dX5_often_89 : decode cX5_often 89 = .ok (.iload_n 3, 1) := by decide +kernel
theorem dX5_often_90 : decode cX5_often 90 = .ok (.ireturn, 1) := by decide +kernel
theorem dX5_was_0 : decode cX5_was 0 = .ok (.iload_n 1, 1) := by decide +kernel
theorem dX5_was_1 : decode cX5_was 1 = .ok (.iconst 0, 1) := by decide +kernel
theorem dX5_was_2 : decode cX5_was 2 = .ok (.bipush 7, 2) := by decide +kernel
theorem dX5_was_4 : decode cX5_was 4 = .ok (.invokestatic 56, 3) := by decide +kernel
theorem dX5_was_7 : decode cX5_was 7 = .ok (.ifCond .eq 14, 3) := by decide +kernel
theorem dX5_was_10 : decode cX5_was 10 = .ok (.aload_n 0, 1) := by decide +kernel
theorem dX5_was_11 : decode cX5_was 11 = .ok (.getfield 36, 3) := by decide +kernel
theorem dX5_was_14 : decode cX5_was 14 = .ok (.iload_n 1, 1) := by decide +kernel
theorem dX5_was_15 : decode cX5_was 15 = .ok (.invokevirtual 120, 3) := by decide +kernel
theorem dX5_was_18 : decode cX5_was 18 = .ok (.goto 9, 3) := by decide +kernel
theorem dX5_was_21 : decode cX5_was 21 = .ok (.aload_n 0, 1) := by decide +kernel
theorem dX5_was_22 : decode cX5_was 22 = .ok (.bipush (-2), 2) := by decide +kernel
theorem dX5_was_24 : decode cX5_was 24 = .ok (.invokevirtual 68, 3) := by decide +kernel
theorem dX5_was_27 : decode cX5_was 27 = .ok (.ireturn, 1) := by decide +kernel
theorem dX5_root_0 : decode cX5_root 0 = .ok (.aload_n 0, 1) := by decide +kernel
theorem dX5_root_1 : decode cX5_root 1 = .ok (.getfield 36, 3) := by decide +kernel
theorem dX5_root_4 : decode cX5_root 4 = .ok (.invokevirtual 123, 3) := by decide +kernel
theorem dX5_root_7 : decode cX5_root 7 = .ok (.ireturn, 1) := by decide +kernel
theorem dX5_diary_0 : decode cX5_diary 0 = .ok (.iload_n 1, 1) := by decide +kernel
theorem dX5_diary_1 : decode cX5_diary 1 = .ok (.iconst (-1), 1) := by decide +kernel
theorem dX5_diary_2 : decode cX5_diary 2 = .ok (.if_icmp .ge 13, 3) := by decide +kernel
theorem dX5_diary_5 : decode cX5_diary 5 = .ok (.aload_n 0, 1) := by decide +kernel
theorem dX5_diary_6 : decode cX5_diary 6 = .ok (.bipush (-2), 2) := by decide +kernel
theorem dX5_diary_8 : decode cX5_diary 8 = .ok (.invokevirtual 68, 3) := by decide +kernel
theorem dX5_diary_11 : decode cX5_diary 11 = .ok (.pop, 1) := by decide +kernel
theorem dX5_diary_12 : decode cX5_diary 12 = .ok (.bipush (-10), 2) := by decide +kernel
theorem dX5_diary_14 : decode cX5_diary 14 = .ok (.ireturn, 1) := by decide +kernel
theorem dX5_diary_15 : decode cX5_diary 15 = .ok (.iload_n 1, 1) := by decide +kernel
theorem dX5_diary_16 : decode cX5_diary 16 = .ok (.iconst (-1), 1) := by decide +kernel
theorem dX5_diary_17 : decode cX5_diary 17 = .ok (.if_icmp .ne 11, 3) := by decide +kernel
theorem dX5_diary_20 : decode cX5_diary 20 = .ok (.aload_n 0, 1) := by decide +kernel
theorem dX5_diary_21 : decode cX5_diary 21 = .ok (.getfield 36, 3) := by decide +kernel
theorem dX5_diary_24 : decode cX5_diary 24 = .ok (.invokevirtual 126, 3) := by decide +kernel
theorem dX5_diary_27 : decode cX5_diary 27 = .ok (.ireturn, 1) := by decide +kernel
theorem dX5_diary_28 : decode cX5_diary 28 = .ok (.iload_n 1, 1) := by decide +kernel
theorem dX5_diary_29 : decode cX5_diary 29 = .ok (.aload_n 0, 1) := by decide +kernel
theorem dX5_diary_30 : decode cX5_diary 30 = .ok (.getfield 36, 3) := by decide +kernel
theorem dX5_diary_33 : decode cX5_diary 33 = .ok (.invokevirtual 126, 3) := by decide +kernel
theorem dX5_diary_36 : decode cX5_diary 36 = .ok (.if_icmp .ge 14, 3) := by decide +kernel
theorem dX5_diary_39 : decode cX5_diary 39 = .ok (.aload_n 0, 1) := by decide +kernel
theorem dX5_diary_40 : decode cX5_diary 40 = .ok (.getfield 36, 3) := by decide +kernel
theorem dX5_diary_43 : decode cX5_diary 43 = .ok (.iload_n 1, 1) := by decide +kernel
theorem dX5_diary_44 : decode cX5_diary 44 = .ok (.invokevirtual 129, 3) := by decide +kernel
theorem dX5_diary_47 : decode cX5_diary 47 = .ok (.goto 5, 3) := by decide +kernel
theorem dX5_diary_50 : decode cX5_diary 50 = .ok (.bipush (-5), 2) := by decide +kernel
theorem dX5_diary_52 : decode cX5_diary 52 = .ok (.ireturn, 1) := by decide +kernel
theorem dX5_open_0 : decode cX5_open 0 = .ok (.aload_n 0, 1) := by decide +kernel
theorem dX5_open_1 : decode cX5_open 1 = .ok (.getfield 36, 3) := by decide +kernel
theorem dX5_open_4 : decode cX5_open 4 = .ok (.invokevirtual 132, 3) := by decide +kernel
theorem dX5_open_7 : decode cX5_open 7 = .ok (.ireturn, 1) := by decide +kernel
theorem dX5_fewest_0 : decode cX5_fewest 0 = .ok (.aload_n 0, 1) := by decide +kernel
theorem dX5_fewest_1 : decode cX5_fewest 1 = .ok (.getfield 29, 3) := by decide +kernel
theorem dX5_fewest_4 : decode cX5_fewest 4 = .ok (.invokevirtual 110, 3) := by decide +kernel
theorem dX5_fewest_7 : decode cX5_fewest 7 = .ok (.istore_n 1, 1) := by decide +kernel
theorem dX5_fewest_8 : decode cX5_fewest 8 = .ok (.iload_n 1, 1) := by decide +kernel
theorem dX5_fewest_9 : decode cX5_fewest 9 = .ok (.iconst (-1), 1) := by decide +kernel
theorem dX5_fewest_10 : decode cX5_fewest 10 = .ok (.if_icmp .eq 8, 3) := by decide +kernel
theorem dX5_fewest_13 : decode cX5_fewest 13 = .ok (.bipush (-10), 2) := by decide +kernel
theorem dX5_fewest_15 : decode cX5_fewest 15 = .ok (.iload_n 1, 1) := by decide +kernel
theorem dX5_fewest_16 : decode cX5_fewest 16 = .ok (.isub, 1) := by decide +kernel
theorem dX5_fewest_17 : decode cX5_fewest 17 = .ok (.ireturn, 1) := by decide +kernel
theorem dX5_fewest_18 : decode cX5_fewest 18 = .ok (.iconst 0, 1) := by decide +kernel
theorem dX5_fewest_19 : decode cX5_fewest 19 = .ok (.istore_n 2, 1) := by decide +kernel
theorem dX5_fewest_20 : decode cX5_fewest 20 = .ok (.iload_n 2, 1) := by decide +kernel
theorem dX5_fewest_21 : decode cX5_fewest 21 = .ok (.getstatic 135, 3) := by decide +kernel
theorem dX5_fewest_24 : decode cX5_fewest 24 = .ok (.arraylength, 1) := by decide +kernel
theorem dX5_fewest_25 : decode cX5_fewest 25 = .ok (.if_icmp .ge 27, 3) := by decide +kernel
theorem dX5_fewest_28 : decode cX5_fewest 28 = .ok (.aload_n 0, 1) := by decide +kernel
theorem dX5_fewest_29 : decode cX5_fewest 29 = .ok (.getstatic 135, 3) := by decide +kernel
theorem dX5_fewest_32 : decode cX5_fewest 32 = .ok (.iload_n 2, 1) := by decide +kernel
theorem dX5_fewest_33 : decode cX5_fewest 33 = .ok (.iaload, 1) := by decide +kernel
theorem dX5_fewest_34 : decode cX5_fewest 34 = .ok (.invokevirtual 138, 3) := by decide +kernel
theorem dX5_fewest_37 : decode cX5_fewest 37 = .ok (.ifCond .ne 9, 3) := by decide +kernel
theorem dX5_fewest_40 : decode cX5_fewest 40 = .ok (.getstatic 135, 3) := by decide +kernel
theorem dX5_fewest_43 : decode cX5_fewest 43 = .ok (.iload_n 2, 1) := by decide +kernel
theorem dX5_fewest_44 : decode cX5_fewest 44 = .ok (.iaload, 1) := by decide +kernel
theorem dX5_fewest_45 : decode cX5_fewest 45 = .ok (.ireturn, 1) := by decide +kernel
theorem dX5_fewest_46 : decode cX5_fewest 46 = .ok (.iinc 2 1, 3) := by decide +kernel
theorem dX5_fewest_49 : decode cX5_fewest 49 = .ok (.goto (-29), 3) := by decide +kernel
theorem dX5_fewest_52 : decode cX5_fewest 52 = .ok (.iconst (-1), 1) := by decide +kernel
theorem dX5_fewest_53 : decode cX5_fewest 53 = .ok (.ireturn, 1) := by decide +kernel
theorem dX5_were_0 : decode cX5_were 0 = .ok (.iload_n 1, 1) := by decide +kernel
theorem dX5_were_1 : decode cX5_were 1 = .ok (.invokestatic 52, 3) := by decide +kernel
theorem dX5_were_4 : decode cX5_were 4 = .ok (.ifCond .eq 12, 3) := by decide +kernel
theorem dX5_were_7 : decode cX5_were 7 = .ok (.iload_n 2, 1) := by decide +kernel
theorem dX5_were_8 : decode cX5_were 8 = .ok (.iconst 0, 1) := by decide +kernel
theorem dX5_were_9 : decode cX5_were 9 = .ok (.iconst 4, 1) := by decide +kernel
theorem dX5_were_10 : decode cX5_were 10 = .ok (.invokestatic 56, 3) := by decide +kernel
theorem dX5_were_13 : decode cX5_were 13 = .ok (.ifCond .ne 10, 3) := by decide +kernel
theorem dX5_were_16 : decode cX5_were 16 = .ok (.aload_n 0, 1) := by decide +kernel
theorem dX5_were_17 : decode cX5_were 17 = .ok (.bipush (-2), 2) := by decide +kernel
theorem dX5_were_19 : decode cX5_were 19 = .ok (.invokevirtual 68, 3) := by decide +kernel
theorem dX5_were_22 : decode cX5_were 22 = .ok (.ireturn, 1) := by decide +kernel
theorem dX5_were_23 : decode cX5_were 23 = .ok (.aload_n 0, 1) := by decide +kernel
theorem dX5_were_24 : decode cX5_were 24 = .ok (.getfield 29, 3) := by decide +kernel
theorem dX5_were_27 : decode cX5_were 27 = .ok (.invokevirtual 110, 3) := by decide +kernel
theorem dX5_were_30 : decode cX5_were 30 = .ok (.istore_n 3, 1) := by decide +kernel
theorem dX5_were_31 : decode cX5_were 31 = .ok (.iload_n 3, 1) := by decide +kernel
theorem dX5_were_32 : decode cX5_were 32 = .ok (.iconst (-1), 1) := by decide +kernel
theorem dX5_were_33 : decode cX5_were 33 = .ok (.if_icmp .eq 10, 3) := by decide +kernel
theorem dX5_were_36 : decode cX5_were 36 = .ok (.bipush (-10), 2) := by decide +kernel
theorem dX5_were_38 : decode cX5_were 38 = .ok (.iload_n 3, 1) := by decide +kernel
theorem dX5_were_39 : decode cX5_were 39 = .ok (.isub, 1) := by decide +kernel
theorem dX5_were_40 : decode cX5_were 40 = .ok (.goto 10, 3) := by decide +kernel
theorem dX5_were_43 : decode cX5_were 43 = .ok (.aload_n 0, 1) := by decide +kernel
theorem dX5_were_44 : decode cX5_were 44 = .ok (.iload_n 1, 1) := by decide +kernel
theorem dX5_were_45 : decode cX5_were 45 = .ok (.iconst 0, 1) := by decide +kernel
theorem dX5_were_46 : decode cX5_were 46 = .ok (.iload_n 2, 1) := by decide +kernel
theorem dX5_were_47 : decode cX5_were 47 = .ok (.invokevirtual 141, 3) := by decide +kernel
theorem dX5_were_50 : decode cX5_were 50 = .ok (.ireturn, 1) := by decide +kernel
theorem dX5_cures_0 : decode cX5_cures 0 = .ok (.iload_n 1, 1) := by decide +kernel
theorem dX5_cures_1 : decode cX5_cures 1 = .ok (.iconst 0, 1) := by decide +kernel
theorem dX5_cures_2 : decode cX5_cures 2 = .ok (.getstatic 145, 3) := by decide +kernel
theorem dX5_cures_5 : decode cX5_cures 5 = .ok (.arraylength, 1) := by decide +kernel
theorem dX5_cures_6 : decode cX5_cures 6 = .ok (.iconst 1, 1) := by decide +kernel
theorem dX5_cures_7 : decode cX5_cures 7 = .ok (.isub, 1) := by decide +kernel
theorem dX5_cures_8 : decode cX5_cures 8 = .ok (.invokestatic 56, 3) := by decide +kernel
theorem dX5_cures_11 : decode cX5_cures 11 = .ok (.ifCond .ne 10, 3) := by decide +kernel
theorem dX5_cures_14 : decode cX5_cures 14 = .ok (.aload_n 0, 1) := by decide +kernel
theorem dX5_cures_15 : decode cX5_cures 15 = .ok (.bipush (-2), 2) := by decide +kernel
theorem dX5_cures_17 : decode cX5_cures 17 = .ok (.invokevirtual 68, 3) := by decide +kernel
theorem dX5_cures_20 : decode cX5_cures 20 = .ok (.ireturn, 1) := by decide +kernel
theorem dX5_cures_21 : decode cX5_cures 21 = .ok (.aload_n 0, 1) := by decide +kernel
theorem dX5_cures_22 : decode cX5_cures 22 = .ok (.getfield 29, 3) := by decide +kernel
theorem dX5_cures_25 : decode cX5_cures 25 = .ok (.invokevirtual 110, 3) := by decide +kernel
theorem dX5_cures_28 : decode cX5_cures 28 = .ok (.istore_n 2, 1) := by decide +kernel
theorem dX5_cures_29 : decode cX5_cures 29 = .ok (.iload_n 2, 1) := by decide +kernel
theorem dX5_cures_30 : decode cX5_cures 30 = .ok (.iconst (-1), 1) := by decide +kernel
theorem dX5_cures_31 : decode cX5_cures 31 = .ok (.if_icmp .eq 8, 3) := by decide +kernel
theorem dX5_cures_34 : decode cX5_cures 34 = .ok (.bipush (-10), 2) := by decide +kernel
theorem dX5_cures_36 : decode cX5_cures 36 = .ok (.iload_n 2, 1) := by decide +kernel
theorem dX5_cures_37 : decode cX5_cures 37 = .ok (.isub, 1) := by decide +kernel
theorem dX5_cures_38 : decode cX5_cures 38 = .ok (.ireturn, 1) := by decide +kernel
theorem dX5_cures_39 : decode cX5_cures 39 = .ok (.iconst 0, 1) := by decide +kernel
theorem dX5_cures_40 : decode cX5_cures 40 = .ok (.istore_n 3, 1) := by decide +kernel
theorem dX5_cures_41 : decode cX5_cures 41 = .ok (.iconst 0, 1) := by decide +kernel
theorem dX5_cures_42 : decode cX5_cures 42 = .ok (.istore 4, 2) := by decide +kernel
theorem dX5_cures_44 : decode cX5_cures 44 = .ok (.iload 4, 2) := by decide +kernel
theorem dX5_cures_46 : decode cX5_cures 46 = .ok (.bipush 8, 2) := by decide +kernel
theorem dX5_cures_48 : decode cX5_cures 48 = .ok (.if_icmp .ge 33, 3) := by decide +kernel
theorem dX5_cures_51 : decode cX5_cures 51 = .ok (.aload_n 0, 1) := by decide +kernel
theorem dX5_cures_52 : decode cX5_cures 52 = .ok (.iload 4, 2) := by decide +kernel
theorem dX5_cures_54 : decode cX5_cures 54 = .ok (.getstatic 145, 3) := by decide +kernel
theorem dX5_cures_57 : decode cX5_cures 57 = .ok (.iload_n 1, 1) := by decide +kernel
theorem dX5_cures_58 : decode cX5_cures 58 = .ok (.invokestatic 64, 3) := by decide +kernel
theorem dX5_cures_61 : decode cX5_cures 61 = .ok (.iconst 0, 1) := by decide +kernel
theorem dX5_cures_62 : decode cX5_cures 62 = .ok (.invokevirtual 141, 3) := by decide +kernel
theorem dX5_cures_65 : decode cX5_cures 65 = .ok (.ifCond .ne 10, 3) := by decide +kernel
theorem dX5_cures_68 : decode cX5_cures 68 = .ok (.iload_n 3, 1) := by decide +kernel
theorem dX5_cures_69 : decode cX5_cures 69 = .ok (.iconst 1, 1) := by decide +kernel
theorem dX5_cures_70 : decode cX5_cures 70 = .ok (.iload 4, 2) := by decide +kernel
theorem dX5_cures_72 : decode cX5_cures 72 = .ok (.ishl, 1) := by decide +kernel
theorem dX5_cures_73 : decode cX5_cures 73 = .ok (.ior, 1) := by decide +kernel
theorem dX5_cures_74 : decode cX5_cures 74 = .ok (.istore_n 3, 1) := by decide +kernel
theorem dX5_cures_75 : decode cX5_cures 75 = .ok (.iinc 4 1, 3) := by decide +kernel
theorem dX5_cures_78 : decode cX5_cures 78 = .ok (.goto (-34), 3) := by decide +kernel
theorem dX5_cures_81 : decode cX5_cures 81 = .ok (.iload_n 3, 1) := by decide +kernel
theorem dX5_cures_82 : decode cX5_cures 82 = .ok (.ireturn, 1) := by decide +kernel
theorem dX5_ends_0 : decode cX5_ends 0 = .ok (.iload_n 1, 1) := by decide +kernel
theorem dX5_ends_1 : decode cX5_ends 1 = .ok (.iconst 0, 1) := by decide +kernel
theorem dX5_ends_2 : decode cX5_ends 2 = .ok (.bipush 6, 2) := by decide +kernel
theorem dX5_ends_4 : decode cX5_ends 4 = .ok (.invokestatic 56, 3) := by decide +kernel
theorem dX5_ends_7 : decode cX5_ends 7 = .ok (.ifCond .ne 10, 3) := by decide +kernel
theorem dX5_ends_10 : decode cX5_ends 10 = .ok (.aload_n 0, 1) := by decide +kernel
theorem dX5_ends_11 : decode cX5_ends 11 = .ok (.bipush (-2), 2) := by decide +kernel
theorem dX5_ends_13 : decode cX5_ends 13 = .ok (.invokevirtual 68, 3) := by decide +kernel
theorem dX5_ends_16 : decode cX5_ends 16 = .ok (.ireturn, 1) := by decide +kernel
theorem dX5_ends_17 : decode cX5_ends 17 = .ok (.aload_n 0, 1) := by decide +kernel
theorem dX5_ends_18 : decode cX5_ends 18 = .ok (.getfield 29, 3) := by decide +kernel
theorem dX5_ends_21 : decode cX5_ends 21 = .ok (.invokevirtual 110, 3) := by decide +kernel
theorem dX5_ends_24 : decode cX5_ends 24 = .ok (.istore_n 2, 1) := by decide +kernel
theorem dX5_ends_25 : decode cX5_ends 25 = .ok (.iload_n 2, 1) := by decide +kernel
theorem dX5_ends_26 : decode cX5_ends 26 = .ok (.iconst (-1), 1) := by decide +kernel
theorem dX5_ends_27 : decode cX5_ends 27 = .ok (.if_icmp .eq 8, 3) := by decide +kernel
theorem dX5_ends_30 : decode cX5_ends 30 = .ok (.bipush (-10), 2) := by decide +kernel
theorem dX5_ends_32 : decode cX5_ends 32 = .ok (.iload_n 2, 1) := by decide +kernel
theorem dX5_ends_33 : decode cX5_ends 33 = .ok (.isub, 1) := by decide +kernel
theorem dX5_ends_34 : decode cX5_ends 34 = .ok (.ireturn, 1) := by decide +kernel
theorem dX5_ends_35 : decode cX5_ends 35 = .ok (.iconst 0, 1) := by decide +kernel
theorem dX5_ends_36 : decode cX5_ends 36 = .ok (.istore_n 3, 1) := by decide +kernel
theorem dX5_ends_37 : decode cX5_ends 37 = .ok (.iconst 0, 1) := by decide +kernel
theorem dX5_ends_38 : decode cX5_ends 38 = .ok (.istore 4, 2) := by decide +kernel
theorem dX5_ends_40 : decode cX5_ends 40 = .ok (.iload 4, 2) := by decide +kernel
theorem dX5_ends_42 : decode cX5_ends 42 = .ok (.getstatic 135, 3) := by decide +kernel
theorem dX5_ends_45 : decode cX5_ends 45 = .ok (.arraylength, 1) := by decide +kernel
theorem dX5_ends_46 : decode cX5_ends 46 = .ok (.if_icmp .ge 26, 3) := by decide +kernel
theorem dX5_ends_49 : decode cX5_ends 49 = .ok (.aload_n 0, 1) := by decide +kernel
theorem dX5_ends_50 : decode cX5_ends 50 = .ok (.getstatic 135, 3) := by decide +kernel
theorem dX5_ends_53 : decode cX5_ends 53 = .ok (.iload 4, 2) := by decide +kernel
theorem dX5_ends_55 : decode cX5_ends 55 = .ok (.iaload, 1) := by decide +kernel
theorem dX5_ends_56 : decode cX5_ends 56 = .ok (.invokevirtual 138, 3) := by decide +kernel
theorem dX5_ends_59 : decode cX5_ends 59 = .ok (.iload_n 1, 1) := by decide +kernel
theorem dX5_ends_60 : decode cX5_ends 60 = .ok (.if_icmp .ne 6, 3) := by decide +kernel
theorem dX5_ends_63 : decode cX5_ends 63 = .ok (.iinc 3 1, 3) := by decide +kernel
theorem dX5_ends_66 : decode cX5_ends 66 = .ok (.iinc 4 1, 3) := by decide +kernel
theorem dX5_ends_69 : decode cX5_ends 69 = .ok (.goto (-29), 3) := by decide +kernel
theorem dX5_ends_72 : decode cX5_ends 72 = .ok (.iload_n 3, 1) := by decide +kernel
theorem dX5_ends_73 : decode cX5_ends 73 = .ok (.ireturn, 1) := by decide +kernel
theorem dX5_told_0 : decode cX5_told 0 = .ok (.iload_n 1, 1) := by decide +kernel
theorem dX5_told_1 : decode cX5_told 1 = .ok (.iconst 0, 1) := by decide +kernel
theorem dX5_told_2 : decode cX5_told 2 = .ok (.iconst 2, 1) := by decide +kernel
theorem dX5_told_3 : decode cX5_told 3 = .ok (.invokestatic 56, 3) := by decide +kernel
theorem dX5_told_6 : decode cX5_told 6 = .ok (.ifCond .ne 10, 3) := by decide +kernel
theorem dX5_told_9 : decode cX5_told 9 = .ok (.aload_n 0, 1) := by decide +kernel
theorem dX5_told_10 : decode cX5_told 10 = .ok (.bipush (-2), 2) := by decide +kernel
theorem dX5_told_12 : decode cX5_told 12 = .ok (.invokevirtual 68, 3) := by decide +kernel
theorem dX5_told_15 : decode cX5_told 15 = .ok (.ireturn, 1) := by decide +kernel
theorem dX5_told_16 : decode cX5_told 16 = .ok (.aload_n 0, 1) := by decide +kernel
theorem dX5_told_17 : decode cX5_told 17 = .ok (.getfield 29, 3) := by decide +kernel
theorem dX5_told_20 : decode cX5_told 20 = .ok (.invokevirtual 110, 3) := by decide +kernel
theorem dX5_told_23 : decode cX5_told 23 = .ok (.istore_n 2, 1) := by decide +kernel
theorem dX5_told_24 : decode cX5_told 24 = .ok (.iload_n 2, 1) := by decide +kernel
theorem dX5_told_25 : decode cX5_told 25 = .ok (.iconst (-1), 1) := by decide +kernel
theorem dX5_told_26 : decode cX5_told 26 = .ok (.if_icmp .eq 8, 3) := by decide +kernel
theorem dX5_told_29 : decode cX5_told 29 = .ok (.bipush (-10), 2) := by decide +kernel
theorem dX5_told_31 : decode cX5_told 31 = .ok (.iload_n 2, 1) := by decide +kernel
theorem dX5_told_32 : decode cX5_told 32 = .ok (.isub, 1) := by decide +kernel
theorem dX5_told_33 : decode cX5_told 33 = .ok (.ireturn, 1) := by decide +kernel
theorem dX5_told_34 : decode cX5_told 34 = .ok (.iload_n 1, 1) := by decide +kernel
theorem dX5_told_35 : decode cX5_told 35 = .ok (.lookupswitch 41 #[(0, 25), (1, 33)], 25) := by decide +kernel
theorem dX5_told_60 : decode cX5_told 60 = .ok (.aload_n 0, 1) := by decide +kernel
theorem dX5_told_61 : decode cX5_told 61 = .ok (.getfield 29, 3) := by decide +kernel
theorem dX5_told_64 : decode cX5_told 64 = .ok (.invokevirtual 148, 3) := by decide +kernel
theorem dX5_told_67 : decode cX5_told 67 = .ok (.ireturn, 1) := by decide +kernel
theorem dX5_told_68 : decode cX5_told 68 = .ok (.aload_n 0, 1) := by decide +kernel
theorem dX5_told_69 : decode cX5_told 69 = .ok (.getfield 29, 3) := by decide +kernel
theorem dX5_told_72 : decode cX5_told 72 = .ok (.invokevirtual 151, 3) := by decide +kernel
theorem dX5_told_75 : decode cX5_told 75 = .ok (.ireturn, 1) := by decide +kernel
theorem dX5_told_76 : decode cX5_told 76 = .ok (.aload_n 0, 1) := by decide +kernel
theorem dX5_told_77 : decode cX5_told 77 = .ok (.getfield 29, 3) := by decide +kernel
theorem dX5_told_80 : decode cX5_told 80 = .ok (.invokevirtual 154, 3) := by decide +kernel
theorem dX5_told_83 : decode cX5_told 83 = .ok (.ireturn, 1) := by decide +kernel
theorem dX5_draw_0 : decode cX5_draw 0 = .ok (.iload_n 1, 1) := by decide +kernel
theorem dX5_draw_1 : decode cX5_draw 1 = .ok (.iconst 0, 1) := by decide +kernel
theorem dX5_draw_2 : decode cX5_draw 2 = .ok (.ldc 157, 2) := by decide +kernel
theorem dX5_draw_4 : decode cX5_draw 4 = .ok (.invokestatic 56, 3) := by decide +kernel
theorem dX5_draw_7 : decode cX5_draw 7 = .ok (.ifCond .ne 10, 3) := by decide +kernel
theorem dX5_draw_10 : decode cX5_draw 10 = .ok (.aload_n 0, 1) := by decide +kernel
theorem dX5_draw_11 : decode cX5_draw 11 = .ok (.bipush (-2), 2) := by decide +kernel
theorem dX5_draw_13 : decode cX5_draw 13 = .ok (.invokevirtual 68, 3) := by decide +kernel
theorem dX5_draw_16 : decode cX5_draw 16 = .ok (.ireturn, 1) := by decide +kernel
theorem dX5_draw_17 : decode cX5_draw 17 = .ok (.aload_n 0, 1) := by decide +kernel
theorem dX5_draw_18 : decode cX5_draw 18 = .ok (.getfield 22, 3) := by decide +kernel
theorem dX5_draw_21 : decode cX5_draw 21 = .ok (.aload_n 0, 1) := by decide +kernel
theorem dX5_draw_22 : decode cX5_draw 22 = .ok (.getfield 12, 3) := by decide +kernel
theorem dX5_draw_25 : decode cX5_draw 25 = .ok (.invokevirtual 76, 3) := by decide +kernel
theorem dX5_draw_28 : decode cX5_draw 28 = .ok (.aload_n 0, 1) := by decide +kernel
theorem dX5_draw_29 : decode cX5_draw 29 = .ok (.getfield 12, 3) := by decide +kernel
theorem dX5_draw_32 : decode cX5_draw 32 = .ok (.iload_n 1, 1) := by decide +kernel
theorem dX5_draw_33 : decode cX5_draw 33 = .ok (.invokevirtual 158, 3) := by decide +kernel
theorem dX5_draw_36 : decode cX5_draw 36 = .ok (.iconst 0, 1) := by decide +kernel
theorem dX5_draw_37 : decode cX5_draw 37 = .ok (.ireturn, 1) := by decide +kernel
theorem dX5_back_0 : decode cX5_back 0 = .ok (.aload_n 0, 1) := by decide +kernel
theorem dX5_back_1 : decode cX5_back 1 = .ok (.getfield 22, 3) := by decide +kernel
theorem dX5_back_4 : decode cX5_back 4 = .ok (.invokevirtual 161, 3) := by decide +kernel
theorem dX5_back_7 : decode cX5_back 7 = .ok (.ifCond .ne 10, 3) := by decide +kernel
theorem dX5_back_10 : decode cX5_back 10 = .ok (.aload_n 0, 1) := by decide +kernel
theorem dX5_back_11 : decode cX5_back 11 = .ok (.bipush (-3), 2) := by decide +kernel
theorem dX5_back_13 : decode cX5_back 13 = .ok (.invokevirtual 68, 3) := by decide +kernel
theorem dX5_back_16 : decode cX5_back 16 = .ok (.ireturn, 1) := by decide +kernel
theorem dX5_back_17 : decode cX5_back 17 = .ok (.aload_n 0, 1) := by decide +kernel
theorem dX5_back_18 : decode cX5_back 18 = .ok (.getfield 22, 3) := by decide +kernel
theorem dX5_back_21 : decode cX5_back 21 = .ok (.aload_n 0, 1) := by decide +kernel
theorem dX5_back_22 : decode cX5_back 22 = .ok (.getfield 12, 3) := by decide +kernel
theorem dX5_back_25 : decode cX5_back 25 = .ok (.invokevirtual 164, 3) := by decide +kernel
theorem dX5_back_28 : decode cX5_back 28 = .ok (.aload_n 0, 1) := by decide +kernel
theorem dX5_back_29 : decode cX5_back 29 = .ok (.getfield 22, 3) := by decide +kernel
theorem dX5_back_32 : decode cX5_back 32 = .ok (.invokevirtual 161, 3) := by decide +kernel
theorem dX5_back_35 : decode cX5_back 35 = .ok (.ireturn, 1) := by decide +kernel
theorem dX5_count_0 : decode cX5_count 0 = .ok (.iload_n 1, 1) := by decide +kernel
theorem dX5_count_1 : decode cX5_count 1 = .ok (.tableswitch 116 0 8 #[51, 56, 61, 66, 74, 82, 90, 98, 107], 51) := by decide +kernel
theorem dX5_count_52 : decode cX5_count 52 = .ok (.aload_n 0, 1) := by decide +kernel
theorem dX5_count_53 : decode cX5_count 53 = .ok (.getfield 167, 3) := by decide +kernel
theorem dX5_count_56 : decode cX5_count 56 = .ok (.ireturn, 1) := by decide +kernel
theorem dX5_count_57 : decode cX5_count 57 = .ok (.aload_n 0, 1) := by decide +kernel
theorem dX5_count_58 : decode cX5_count 58 = .ok (.getfield 171, 3) := by decide +kernel
theorem dX5_count_61 : decode cX5_count 61 = .ok (.ireturn, 1) := by decide +kernel
theorem dX5_count_62 : decode cX5_count 62 = .ok (.aload_n 0, 1) := by decide +kernel
theorem dX5_count_63 : decode cX5_count 63 = .ok (.getfield 174, 3) := by decide +kernel
theorem dX5_count_66 : decode cX5_count 66 = .ok (.ireturn, 1) := by decide +kernel
theorem dX5_count_67 : decode cX5_count 67 = .ok (.aload_n 0, 1) := by decide +kernel
theorem dX5_count_68 : decode cX5_count 68 = .ok (.getfield 29, 3) := by decide +kernel
theorem dX5_count_71 : decode cX5_count 71 = .ok (.invokevirtual 101, 3) := by decide +kernel
theorem dX5_count_74 : decode cX5_count 74 = .ok (.ireturn, 1) := by decide +kernel
theorem dX5_count_75 : decode cX5_count 75 = .ok (.aload_n 0, 1) := by decide +kernel
theorem dX5_count_76 : decode cX5_count 76 = .ok (.getfield 22, 3) := by decide +kernel
theorem dX5_count_79 : decode cX5_count 79 = .ok (.invokevirtual 161, 3) := by decide +kernel
theorem dX5_count_82 : decode cX5_count 82 = .ok (.ireturn, 1) := by decide +kernel
theorem dX5_count_83 : decode cX5_count 83 = .ok (.aload_n 0, 1) := by decide +kernel
theorem dX5_count_84 : decode cX5_count 84 = .ok (.getfield 12, 3) := by decide +kernel
theorem dX5_count_87 : decode cX5_count 87 = .ok (.invokevirtual 87, 3) := by decide +kernel
theorem dX5_count_90 : decode cX5_count 90 = .ok (.ireturn, 1) := by decide +kernel
theorem dX5_count_91 : decode cX5_count 91 = .ok (.aload_n 0, 1) := by decide +kernel
theorem dX5_count_92 : decode cX5_count 92 = .ok (.getfield 12, 3) := by decide +kernel
theorem dX5_count_95 : decode cX5_count 95 = .ok (.invokevirtual 177, 3) := by decide +kernel
theorem dX5_count_98 : decode cX5_count 98 = .ok (.ireturn, 1) := by decide +kernel
theorem dX5_count_99 : decode cX5_count 99 = .ok (.aload_n 0, 1) := by decide +kernel
theorem dX5_count_100 : decode cX5_count 100 = .ok (.getfield 12, 3) := by decide +kernel
theorem dX5_count_103 : decode cX5_count 103 = .ok (.iconst 4, 1) := by decide +kernel
theorem dX5_count_104 : decode cX5_count 104 = .ok (.invokevirtual 95, 3) := by decide +kernel
theorem dX5_count_107 : decode cX5_count 107 = .ok (.ireturn, 1) := by decide +kernel
theorem dX5_count_108 : decode cX5_count 108 = .ok (.aload_n 0, 1) := by decide +kernel
theorem dX5_count_109 : decode cX5_count 109 = .ok (.getfield 12, 3) := by decide +kernel
theorem dX5_count_112 : decode cX5_count 112 = .ok (.iconst 5, 1) := by decide +kernel
theorem dX5_count_113 : decode cX5_count 113 = .ok (.invokevirtual 95, 3) := by decide +kernel
theorem dX5_count_116 : decode cX5_count 116 = .ok (.ireturn, 1) := by decide +kernel
theorem dX5_count_117 : decode cX5_count 117 = .ok (.aload_n 0, 1) := by decide +kernel
theorem dX5_count_118 : decode cX5_count 118 = .ok (.bipush (-2), 2) := by decide +kernel
theorem dX5_count_120 : decode cX5_count 120 = .ok (.invokevirtual 68, 3) := by decide +kernel
theorem dX5_count_123 : decode cX5_count 123 = .ok (.ireturn, 1) := by decide +kernel
theorem dX5_digest_0 : decode cX5_digest 0 = .ok (.ldc2_w 180, 3) := by decide +kernel
theorem dX5_digest_3 : decode cX5_digest 3 = .ok (.lstore_n 1, 1) := by decide +kernel
theorem dX5_digest_4 : decode cX5_digest 4 = .ok (.iconst 0, 1) := by decide +kernel
theorem dX5_digest_5 : decode cX5_digest 5 = .ok (.istore_n 3, 1) := by decide +kernel
theorem dX5_digest_6 : decode cX5_digest 6 = .ok (.iload_n 3, 1) := by decide +kernel
theorem dX5_digest_7 : decode cX5_digest 7 = .ok (.bipush 8, 2) := by decide +kernel
theorem dX5_digest_9 : decode cX5_digest 9 = .ok (.if_icmp .gt 22, 3) := by decide +kernel
theorem dX5_digest_12 : decode cX5_digest 12 = .ok (.ldc2_w 182, 3) := by decide +kernel
theorem dX5_digest_15 : decode cX5_digest 15 = .ok (.lload_n 1, 1) := by decide +kernel
theorem dX5_digest_16 : decode cX5_digest 16 = .ok (.lmul, 1) := by decide +kernel
theorem dX5_digest_17 : decode cX5_digest 17 = .ok (.aload_n 0, 1) := by decide +kernel
theorem dX5_digest_18 : decode cX5_digest 18 = .ok (.iload_n 3, 1) := by decide +kernel
theorem dX5_digest_19 : decode cX5_digest 19 = .ok (.invokevirtual 184, 3) := by decide +kernel
theorem dX5_digest_22 : decode cX5_digest 22 = .ok (.i2l, 1) := by decide +kernel
theorem dX5_digest_23 : decode cX5_digest 23 = .ok (.ladd, 1) := by decide +kernel
theorem dX5_digest_24 : decode cX5_digest 24 = .ok (.lstore_n 1, 1) := by decide +kernel
theorem dX5_digest_25 : decode cX5_digest 25 = .ok (.iinc 3 1, 3) := by decide +kernel
theorem dX5_digest_28 : decode cX5_digest 28 = .ok (.goto (-22), 3) := by decide +kernel
theorem dX5_digest_31 : decode cX5_digest 31 = .ok (.iconst 0, 1) := by decide +kernel
theorem dX5_digest_32 : decode cX5_digest 32 = .ok (.istore_n 3, 1) := by decide +kernel
theorem dX5_digest_33 : decode cX5_digest 33 = .ok (.iload_n 3, 1) := by decide +kernel
theorem dX5_digest_34 : decode cX5_digest 34 = .ok (.bipush 8, 2) := by decide +kernel
theorem dX5_digest_36 : decode cX5_digest 36 = .ok (.if_icmp .ge 43, 3) := by decide +kernel
theorem dX5_digest_39 : decode cX5_digest 39 = .ok (.iconst 0, 1) := by decide +kernel
theorem dX5_digest_40 : decode cX5_digest 40 = .ok (.istore 4, 2) := by decide +kernel
theorem dX5_digest_42 : decode cX5_digest 42 = .ok (.iload 4, 2) := by decide +kernel
theorem dX5_digest_44 : decode cX5_digest 44 = .ok (.bipush 6, 2) := by decide +kernel
theorem dX5_digest_46 : decode cX5_digest 46 = .ok (.if_icmp .gt 27, 3) := by decide +kernel
theorem dX5_digest_49 : decode cX5_digest 49 = .ok (.ldc2_w 182, 3) := by decide +kernel
theorem dX5_digest_52 : decode cX5_digest 52 = .ok (.lload_n 1, 1) := by decide +kernel
theorem dX5_digest_53 : decode cX5_digest 53 = .ok (.lmul, 1) := by decide +kernel
theorem dX5_digest_54 : decode cX5_digest 54 = .ok (.aload_n 0, 1) := by decide +kernel
theorem dX5_digest_55 : decode cX5_digest 55 = .ok (.getfield 12, 3) := by decide +kernel
theorem dX5_digest_58 : decode cX5_digest 58 = .ok (.iload_n 3, 1) := by decide +kernel
theorem dX5_digest_59 : decode cX5_digest 59 = .ok (.iload 4, 2) := by decide +kernel
theorem dX5_digest_61 : decode cX5_digest 61 = .ok (.invokevirtual 72, 3) := by decide +kernel
theorem dX5_digest_64 : decode cX5_digest 64 = .ok (.i2l, 1) := by decide +kernel
theorem dX5_digest_65 : decode cX5_digest 65 = .ok (.ladd, 1) := by decide +kernel
theorem dX5_digest_66 : decode cX5_digest 66 = .ok (.lstore_n 1, 1) := by decide +kernel
theorem dX5_digest_67 : decode cX5_digest 67 = .ok (.iinc 4 1, 3) := by decide +kernel
theorem dX5_digest_70 : decode cX5_digest 70 = .ok (.goto (-28), 3) := by decide +kernel
theorem dX5_digest_73 : decode cX5_digest 73 = .ok (.iinc 3 1, 3) := by decide +kernel
theorem dX5_digest_76 : decode cX5_digest 76 = .ok (.goto (-43), 3) := by decide +kernel
theorem dX5_digest_79 : decode cX5_digest 79 = .ok (.iconst 0, 1) := by decide +kernel
theorem dX5_digest_80 : decode cX5_digest 80 = .ok (.istore_n 3, 1) := by decide +kernel
theorem dX5_digest_81 : decode cX5_digest 81 = .ok (.iload_n 3, 1) := by decide +kernel
theorem dX5_digest_82 : decode cX5_digest 82 = .ok (.bipush 7, 2) := by decide +kernel
theorem dX5_digest_84 : decode cX5_digest 84 = .ok (.if_icmp .gt 25, 3) := by decide +kernel
theorem dX5_digest_87 : decode cX5_digest 87 = .ok (.ldc2_w 182, 3) := by decide +kernel
theorem dX5_digest_90 : decode cX5_digest 90 = .ok (.lload_n 1, 1) := by decide +kernel
theorem dX5_digest_91 : decode cX5_digest 91 = .ok (.lmul, 1) := by decide +kernel
theorem dX5_digest_92 : decode cX5_digest 92 = .ok (.aload_n 0, 1) := by decide +kernel
theorem dX5_digest_93 : decode cX5_digest 93 = .ok (.getfield 36, 3) := by decide +kernel
theorem dX5_digest_96 : decode cX5_digest 96 = .ok (.iload_n 3, 1) := by decide +kernel
theorem dX5_digest_97 : decode cX5_digest 97 = .ok (.invokevirtual 120, 3) := by decide +kernel
theorem dX5_digest_100 : decode cX5_digest 100 = .ok (.i2l, 1) := by decide +kernel
theorem dX5_digest_101 : decode cX5_digest 101 = .ok (.ladd, 1) := by decide +kernel
theorem dX5_digest_102 : decode cX5_digest 102 = .ok (.lstore_n 1, 1) := by decide +kernel
theorem dX5_digest_103 : decode cX5_digest 103 = .ok (.iinc 3 1, 3) := by decide +kernel
theorem dX5_digest_106 : decode cX5_digest 106 = .ok (.goto (-25), 3) := by decide +kernel
theorem dX5_digest_109 : decode cX5_digest 109 = .ok (.aload_n 0, 1) := by decide +kernel
theorem dX5_digest_110 : decode cX5_digest 110 = .ok (.getfield 36, 3) := by decide +kernel
theorem dX5_digest_113 : decode cX5_digest 113 = .ok (.invokevirtual 126, 3) := by decide +kernel
theorem dX5_digest_116 : decode cX5_digest 116 = .ok (.istore_n 3, 1) := by decide +kernel
theorem dX5_digest_117 : decode cX5_digest 117 = .ok (.ldc2_w 182, 3) := by decide +kernel
theorem dX5_digest_120 : decode cX5_digest 120 = .ok (.lload_n 1, 1) := by decide +kernel
theorem dX5_digest_121 : decode cX5_digest 121 = .ok (.lmul, 1) := by decide +kernel
theorem dX5_digest_122 : decode cX5_digest 122 = .ok (.iload_n 3, 1) := by decide +kernel
theorem dX5_digest_123 : decode cX5_digest 123 = .ok (.i2l, 1) := by decide +kernel
theorem dX5_digest_124 : decode cX5_digest 124 = .ok (.ladd, 1) := by decide +kernel
theorem dX5_digest_125 : decode cX5_digest 125 = .ok (.lstore_n 1, 1) := by decide +kernel
theorem dX5_digest_126 : decode cX5_digest 126 = .ok (.iconst 0, 1) := by decide +kernel
theorem dX5_digest_127 : decode cX5_digest 127 = .ok (.istore 4, 2) := by decide +kernel
theorem dX5_digest_129 : decode cX5_digest 129 = .ok (.iload 4, 2) := by decide +kernel
theorem dX5_digest_131 : decode cX5_digest 131 = .ok (.iload_n 3, 1) := by decide +kernel
theorem dX5_digest_132 : decode cX5_digest 132 = .ok (.if_icmp .ge 26, 3) := by decide +kernel
theorem dX5_digest_135 : decode cX5_digest 135 = .ok (.ldc2_w 182, 3) := by decide +kernel
theorem dX5_digest_138 : decode cX5_digest 138 = .ok (.lload_n 1, 1) := by decide +kernel
theorem dX5_digest_139 : decode cX5_digest 139 = .ok (.lmul, 1) := by decide +kernel
theorem dX5_digest_140 : decode cX5_digest 140 = .ok (.aload_n 0, 1) := by decide +kernel
theorem dX5_digest_141 : decode cX5_digest 141 = .ok (.getfield 36, 3) := by decide +kernel
theorem dX5_digest_144 : decode cX5_digest 144 = .ok (.iload 4, 2) := by decide +kernel
theorem dX5_digest_146 : decode cX5_digest 146 = .ok (.invokevirtual 129, 3) := by decide +kernel
theorem dX5_digest_149 : decode cX5_digest 149 = .ok (.i2l, 1) := by decide +kernel
theorem dX5_digest_150 : decode cX5_digest 150 = .ok (.ladd, 1) := by decide +kernel
theorem dX5_digest_151 : decode cX5_digest 151 = .ok (.lstore_n 1, 1) := by decide +kernel
theorem dX5_digest_152 : decode cX5_digest 152 = .ok (.iinc 4 1, 3) := by decide +kernel
theorem dX5_digest_155 : decode cX5_digest 155 = .ok (.goto (-26), 3) := by decide +kernel
theorem dX5_digest_158 : decode cX5_digest 158 = .ok (.lload_n 1, 1) := by decide +kernel
theorem dX5_digest_159 : decode cX5_digest 159 = .ok (.lreturn, 1) := by decide +kernel
theorem dX5_refuse_0 : decode cX5_refuse 0 = .ok (.iload_n 1, 1) := by decide +kernel
theorem dX5_refuse_1 : decode cX5_refuse 1 = .ok (.bipush (-2), 2) := by decide +kernel
theorem dX5_refuse_3 : decode cX5_refuse 3 = .ok (.if_icmp .ne 16, 3) := by decide +kernel
theorem dX5_refuse_6 : decode cX5_refuse 6 = .ok (.aload_n 0, 1) := by decide +kernel
theorem dX5_refuse_7 : decode cX5_refuse 7 = .ok (.dup, 1) := by decide +kernel
theorem dX5_refuse_8 : decode cX5_refuse 8 = .ok (.getfield 167, 3) := by decide +kernel
theorem dX5_refuse_11 : decode cX5_refuse 11 = .ok (.iconst 1, 1) := by decide +kernel
theorem dX5_refuse_12 : decode cX5_refuse 12 = .ok (.iadd, 1) := by decide +kernel
theorem dX5_refuse_13 : decode cX5_refuse 13 = .ok (.putfield 167, 3) := by decide +kernel
theorem dX5_refuse_16 : decode cX5_refuse 16 = .ok (.goto 32, 3) := by decide +kernel
theorem dX5_refuse_19 : decode cX5_refuse 19 = .ok (.iload_n 1, 1) := by decide +kernel
theorem dX5_refuse_20 : decode cX5_refuse 20 = .ok (.bipush (-3), 2) := by decide +kernel
theorem dX5_refuse_22 : decode cX5_refuse 22 = .ok (.if_icmp .ne 16, 3) := by decide +kernel
theorem dX5_refuse_25 : decode cX5_refuse 25 = .ok (.aload_n 0, 1) := by decide +kernel
theorem dX5_refuse_26 : decode cX5_refuse 26 = .ok (.dup, 1) := by decide +kernel
theorem dX5_refuse_27 : decode cX5_refuse 27 = .ok (.getfield 171, 3) := by decide +kernel
theorem dX5_refuse_30 : decode cX5_refuse 30 = .ok (.iconst 1, 1) := by decide +kernel
theorem dX5_refuse_31 : decode cX5_refuse 31 = .ok (.iadd, 1) := by decide +kernel
theorem dX5_refuse_32 : decode cX5_refuse 32 = .ok (.putfield 171, 3) := by decide +kernel
theorem dX5_refuse_35 : decode cX5_refuse 35 = .ok (.goto 13, 3) := by decide +kernel
theorem dX5_refuse_38 : decode cX5_refuse 38 = .ok (.aload_n 0, 1) := by decide +kernel
theorem dX5_refuse_39 : decode cX5_refuse 39 = .ok (.dup, 1) := by decide +kernel
theorem dX5_refuse_40 : decode cX5_refuse 40 = .ok (.getfield 174, 3) := by decide +kernel
theorem dX5_refuse_43 : decode cX5_refuse 43 = .ok (.iconst 1, 1) := by decide +kernel
theorem dX5_refuse_44 : decode cX5_refuse 44 = .ok (.iadd, 1) := by decide +kernel
theorem dX5_refuse_45 : decode cX5_refuse 45 = .ok (.putfield 174, 3) := by decide +kernel
theorem dX5_refuse_48 : decode cX5_refuse 48 = .ok (.iload_n 1, 1) := by decide +kernel
theorem dX5_refuse_49 : decode cX5_refuse 49 = .ok (.ireturn, 1) := by decide +kernel
theorem dX5_endWithKeys_0 : decode cX5_endWithKeys 0 = .ok (.aload_n 0, 1) := by decide +kernel
theorem dX5_endWithKeys_1 : decode cX5_endWithKeys 1 = .ok (.getfield 16, 3) := by decide +kernel
theorem dX5_endWithKeys_4 : decode cX5_endWithKeys 4 = .ok (.aload_n 0, 1) := by decide +kernel
theorem dX5_endWithKeys_5 : decode cX5_endWithKeys 5 = .ok (.getfield 12, 3) := by decide +kernel
theorem dX5_endWithKeys_8 : decode cX5_endWithKeys 8 = .ok (.invokevirtual 117, 3) := by decide +kernel
theorem dX5_endWithKeys_11 : decode cX5_endWithKeys 11 = .ok (.aload_n 0, 1) := by decide +kernel
theorem dX5_endWithKeys_12 : decode cX5_endWithKeys 12 = .ok (.getfield 16, 3) := by decide +kernel
theorem dX5_endWithKeys_15 : decode cX5_endWithKeys 15 = .ok (.iload_n 1, 1) := by decide +kernel
theorem dX5_endWithKeys_16 : decode cX5_endWithKeys 16 = .ok (.invokevirtual 91, 3) := by decide +kernel
theorem dX5_endWithKeys_19 : decode cX5_endWithKeys 19 = .ok (.aload_n 0, 1) := by decide +kernel
theorem dX5_endWithKeys_20 : decode cX5_endWithKeys 20 = .ok (.getfield 48, 3) := by decide +kernel
theorem dX5_endWithKeys_23 : decode cX5_endWithKeys 23 = .ok (.aload_n 0, 1) := by decide +kernel
theorem dX5_endWithKeys_24 : decode cX5_endWithKeys 24 = .ok (.getfield 16, 3) := by decide +kernel
theorem dX5_endWithKeys_27 : decode cX5_endWithKeys 27 = .ok (.aload_n 0, 1) := by decide +kernel
theorem dX5_endWithKeys_28 : decode cX5_endWithKeys 28 = .ok (.getfield 40, 3) := by decide +kernel
theorem dX5_endWithKeys_31 : decode cX5_endWithKeys 31 = .ok (.invokevirtual 113, 3) := by decide +kernel
theorem dX5_endWithKeys_34 : decode cX5_endWithKeys 34 = .ok (.ireturn, 1) := by decide +kernel
theorem dX5_endWith_0 : decode cX5_endWith 0 = .ok (.aload_n 0, 1) := by decide +kernel
theorem dX5_endWith_1 : decode cX5_endWith 1 = .ok (.getfield 16, 3) := by decide +kernel
theorem dX5_endWith_4 : decode cX5_endWith 4 = .ok (.aload_n 0, 1) := by decide +kernel
theorem dX5_endWith_5 : decode cX5_endWith 5 = .ok (.getfield 12, 3) := by decide +kernel
theorem dX5_endWith_8 : decode cX5_endWith 8 = .ok (.invokevirtual 117, 3) := by decide +kernel
theorem dX5_endWith_11 : decode cX5_endWith 11 = .ok (.aload_n 0, 1) := by decide +kernel
theorem dX5_endWith_12 : decode cX5_endWith 12 = .ok (.getfield 16, 3) := by decide +kernel
theorem dX5_endWith_15 : decode cX5_endWith 15 = .ok (.iload_n 1, 1) := by decide +kernel
theorem dX5_endWith_16 : decode cX5_endWith 16 = .ok (.iload_n 2, 1) := by decide +kernel
theorem dX5_endWith_17 : decode cX5_endWith 17 = .ok (.iload_n 3, 1) := by decide +kernel
theorem dX5_endWith_18 : decode cX5_endWith 18 = .ok (.invokevirtual 80, 3) := by decide +kernel
theorem dX5_endWith_21 : decode cX5_endWith 21 = .ok (.aload_n 0, 1) := by decide +kernel
theorem dX5_endWith_22 : decode cX5_endWith 22 = .ok (.getfield 48, 3) := by decide +kernel
theorem dX5_endWith_25 : decode cX5_endWith 25 = .ok (.aload_n 0, 1) := by decide +kernel
theorem dX5_endWith_26 : decode cX5_endWith 26 = .ok (.getfield 16, 3) := by decide +kernel
theorem dX5_endWith_29 : decode cX5_endWith 29 = .ok (.aload_n 0, 1) := by decide +kernel
theorem dX5_endWith_30 : decode cX5_endWith 30 = .ok (.getfield 40, 3) := by decide +kernel
theorem dX5_endWith_33 : decode cX5_endWith 33 = .ok (.invokevirtual 113, 3) := by decide +kernel
theorem dX5_endWith_36 : decode cX5_endWith 36 = .ok (.ireturn, 1) := by decide +kernel
theorem dX5_within_0 : decode cX5_within 0 = .ok (.iload_n 0, 1) := by decide +kernel
theorem dX5_within_1 : decode cX5_within 1 = .ok (.iload_n 1, 1) := by decide +kernel
theorem dX5_within_2 : decode cX5_within 2 = .ok (.if_icmp .lt 12, 3) := by decide +kernel
theorem dX5_within_5 : decode cX5_within 5 = .ok (.iload_n 0, 1) := by decide +kernel
theorem dX5_within_6 : decode cX5_within 6 = .ok (.iload_n 2, 1) := by decide +kernel
theorem dX5_within_7 : decode cX5_within 7 = .ok (.if_icmp .gt 7, 3) := by decide +kernel
theorem dX5_within_10 : decode cX5_within 10 = .ok (.iconst 1, 1) := by decide +kernel
theorem dX5_within_11 : decode cX5_within 11 = .ok (.goto 4, 3) := by decide +kernel
theorem dX5_within_14 : decode cX5_within 14 = .ok (.iconst 0, 1) := by decide +kernel
theorem dX5_within_15 : decode cX5_within 15 = .ok (.ireturn, 1) := by decide +kernel
theorem dX5_isRoom_0 : decode cX5_isRoom 0 = .ok (.iload_n 0, 1) := by decide +kernel
theorem dX5_isRoom_1 : decode cX5_isRoom 1 = .ok (.iconst 0, 1) := by decide +kernel
theorem dX5_isRoom_2 : decode cX5_isRoom 2 = .ok (.bipush 7, 2) := by decide +kernel
theorem dX5_isRoom_4 : decode cX5_isRoom 4 = .ok (.invokestatic 56, 3) := by decide +kernel
theorem dX5_isRoom_7 : decode cX5_isRoom 7 = .ok (.ireturn, 1) := by decide +kernel
theorem dX5_at_0 : decode cX5_at 0 = .ok (.iload_n 1, 1) := by decide +kernel
theorem dX5_at_1 : decode cX5_at 1 = .ok (.ifCond .lt 15, 3) := by decide +kernel
theorem dX5_at_4 : decode cX5_at 4 = .ok (.iload_n 1, 1) := by decide +kernel
theorem dX5_at_5 : decode cX5_at 5 = .ok (.aload_n 0, 1) := by decide +kernel
theorem dX5_at_6 : decode cX5_at 6 = .ok (.arraylength, 1) := by decide +kernel
theorem dX5_at_7 : decode cX5_at 7 = .ok (.if_icmp .ge 9, 3) := by decide +kernel
theorem dX5_at_10 : decode cX5_at 10 = .ok (.aload_n 0, 1) := by decide +kernel
theorem dX5_at_11 : decode cX5_at 11 = .ok (.iload_n 1, 1) := by decide +kernel
theorem dX5_at_12 : decode cX5_at 12 = .ok (.iaload, 1) := by decide +kernel
theorem dX5_at_13 : decode cX5_at 13 = .ok (.goto 4, 3) := by decide +kernel
theorem dX5_at_16 : decode cX5_at 16 = .ok (.iconst 0, 1) := by decide +kernel
theorem dX5_at_17 : decode cX5_at 17 = .ok (.ireturn, 1) := by decide +kernel
theorem dX5_put_0 : decode cX5_put 0 = .ok (.iload_n 1, 1) := by decide +kernel
theorem dX5_put_1 : decode cX5_put 1 = .ok (.ifCond .lt 13, 3) := by decide +kernel
theorem dX5_put_4 : decode cX5_put 4 = .ok (.iload_n 1, 1) := by decide +kernel
theorem dX5_put_5 : decode cX5_put 5 = .ok (.aload_n 0, 1) := by decide +kernel
theorem dX5_put_6 : decode cX5_put 6 = .ok (.arraylength, 1) := by decide +kernel
theorem dX5_put_7 : decode cX5_put 7 = .ok (.if_icmp .ge 7, 3) := by decide +kernel
theorem dX5_put_10 : decode cX5_put 10 = .ok (.aload_n 0, 1) := by decide +kernel
theorem dX5_put_11 : decode cX5_put 11 = .ok (.iload_n 1, 1) := by decide +kernel
theorem dX5_put_12 : decode cX5_put 12 = .ok (.iload_n 2, 1) := by decide +kernel
theorem dX5_put_13 : decode cX5_put 13 = .ok (.iastore, 1) := by decide +kernel
theorem dX5_put_14 : decode cX5_put 14 = .ok (.return_, 1) := by decide +kernel
theorem dX6_init_0 : decode cX6_init 0 = .ok (.aload_n 0, 1) := by decide +kernel
theorem dX6_init_1 : decode cX6_init 1 = .ok (.invokespecial 1, 3) := by decide +kernel
theorem dX6_init_4 : decode cX6_init 4 = .ok (.aload_n 0, 1) := by decide +kernel
theorem dX6_init_5 : decode cX6_init 5 = .ok (.bipush 58, 2) := by decide +kernel
theorem dX6_init_7 : decode cX6_init 7 = .ok (.newarray .int, 2) := by decide +kernel
theorem dX6_init_9 : decode cX6_init 9 = .ok (.putfield 7, 3) := by decide +kernel
theorem dX6_init_12 : decode cX6_init 12 = .ok (.aload_n 0, 1) := by decide +kernel
theorem dX6_init_13 : decode cX6_init 13 = .ok (.sipush 464, 3) := by decide +kernel
theorem dX6_init_16 : decode cX6_init 16 = .ok (.newarray .int, 2) := by decide +kernel
theorem dX6_init_18 : decode cX6_init 18 = .ok (.putfield 13, 3) := by decide +kernel
theorem dX6_init_21 : decode cX6_init 21 = .ok (.aload_n 0, 1) := by decide +kernel
theorem dX6_init_22 : decode cX6_init 22 = .ok (.iconst 3, 1) := by decide +kernel
theorem dX6_init_23 : decode cX6_init 23 = .ok (.newarray .int, 2) := by decide +kernel
theorem dX6_init_25 : decode cX6_init 25 = .ok (.putfield 16, 3) := by decide +kernel
theorem dX6_init_28 : decode cX6_init 28 = .ok (.aload_n 0, 1) := by decide +kernel
theorem dX6_init_29 : decode cX6_init 29 = .ok (.bipush 100, 2) := by decide +kernel
theorem dX6_init_31 : decode cX6_init 31 = .ok (.newarray .int, 2) := by decide +kernel
theorem dX6_init_33 : decode cX6_init 33 = .ok (.putfield 19, 3) := by decide +kernel
theorem dX6_init_36 : decode cX6_init 36 = .ok (.aload_n 0, 1) := by decide +kernel
theorem dX6_init_37 : decode cX6_init 37 = .ok (.bipush 100, 2) := by decide +kernel
theorem dX6_init_39 : decode cX6_init 39 = .ok (.newarray .int, 2) := by decide +kernel
theorem dX6_init_41 : decode cX6_init 41 = .ok (.putfield 22, 3) := by decide +kernel
theorem dX6_init_44 : decode cX6_init 44 = .ok (.aload_n 0, 1) := by decide +kernel
theorem dX6_init_45 : decode cX6_init 45 = .ok (.bipush 100, 2) := by decide +kernel
theorem dX6_init_47 : decode cX6_init 47 = .ok (.newarray .int, 2) := by decide +kernel
theorem dX6_init_49 : decode cX6_init 49 = .ok (.putfield 25, 3) := by decide +kernel
theorem dX6_init_52 : decode cX6_init 52 = .ok (.aload_n 0, 1) := by decide +kernel
theorem dX6_init_53 : decode cX6_init 53 = .ok (.bipush 9, 2) := by decide +kernel
theorem dX6_init_55 : decode cX6_init 55 = .ok (.newarray .int, 2) := by decide +kernel
theorem dX6_init_57 : decode cX6_init 57 = .ok (.putfield 28, 3) := by decide +kernel
theorem dX6_init_60 : decode cX6_init 60 = .ok (.aload_n 0, 1) := by decide +kernel
theorem dX6_init_61 : decode cX6_init 61 = .ok (.sipush 150, 3) := by decide +kernel
theorem dX6_init_64 : decode cX6_init 64 = .ok (.newarray .int, 2) := by decide +kernel
theorem dX6_init_66 : decode cX6_init 66 = .ok (.putfield 31, 3) := by decide +kernel
theorem dX6_init_69 : decode cX6_init 69 = .ok (.aload_n 0, 1) := by decide +kernel
theorem dX6_init_70 : decode cX6_init 70 = .ok (.bipush 9, 2) := by decide +kernel
theorem dX6_init_72 : decode cX6_init 72 = .ok (.newarray .int, 2) := by decide +kernel
theorem dX6_init_74 : decode cX6_init 74 = .ok (.putfield 34, 3) := by decide +kernel
theorem dX6_init_77 : decode cX6_init 77 = .ok (.aload_n 0, 1) := by decide +kernel
theorem dX6_init_78 : decode cX6_init 78 = .ok (.bipush 9, 2) := by decide +kernel
theorem dX6_init_80 : decode cX6_init 80 = .ok (.newarray .int, 2) := by decide +kernel
theorem dX6_init_82 : decode cX6_init 82 = .ok (.putfield 37, 3) := by decide +kernel
theorem dX6_init_85 : decode cX6_init 85 = .ok (.aload_n 0, 1) := by decide +kernel
theorem dX6_init_86 : decode cX6_init 86 = .ok (.bipush 9, 2) := by decide +kernel
theorem dX6_init_88 : decode cX6_init 88 = .ok (.newarray .int, 2) := by decide +kernel
theorem dX6_init_90 : decode cX6_init 90 = .ok (.putfield 40, 3) := by decide +kernel
theorem dX6_init_93 : decode cX6_init 93 = .ok (.aload_n 0, 1) := by decide +kernel
theorem dX6_init_94 : decode cX6_init 94 = .ok (.bipush 9, 2) := by decide +kernel
theorem dX6_init_96 : decode cX6_init 96 = .ok (.newarray .boolean, 2) := by decide +kernel
theorem dX6_init_98 : decode cX6_init 98 = .ok (.putfield 43, 3) := by decide +kernel
theorem dX6_init_101 : decode cX6_init 101 = .ok (.aload_n 0, 1) := by decide +kernel
theorem dX6_init_102 : decode cX6_init 102 = .ok (.bipush 8, 2) := by decide +kernel
theorem dX6_init_104 : decode cX6_init 104 = .ok (.newarray .int, 2) := by decide +kernel
theorem dX6_init_106 : decode cX6_init 106 = .ok (.putfield 47, 3) := by decide +kernel
theorem dX6_init_109 : decode cX6_init 109 = .ok (.aload_n 0, 1) := by decide +kernel
theorem dX6_init_110 : decode cX6_init 110 = .ok (.iconst (-1), 1) := by decide +kernel
theorem dX6_init_111 : decode cX6_init 111 = .ok (.putfield 50, 3) := by decide +kernel
theorem dX6_init_114 : decode cX6_init 114 = .ok (.aload_n 0, 1) := by decide +kernel
theorem dX6_init_115 : decode cX6_init 115 = .ok (.sipush 150, 3) := by decide +kernel
theorem dX6_init_118 : decode cX6_init 118 = .ok (.newarray .int, 2) := by decide +kernel
theorem dX6_init_120 : decode cX6_init 120 = .ok (.putfield 54, 3) := by decide +kernel
theorem dX6_init_123 : decode cX6_init 123 = .ok (.aload_n 0, 1) := by decide +kernel
theorem dX6_init_124 : decode cX6_init 124 = .ok (.bipush 58, 2) := by decide +kernel
theorem dX6_init_126 : decode cX6_init 126 = .ok (.newarray .int, 2) := by decide +kernel
theorem dX6_init_128 : decode cX6_init 128 = .ok (.putfield 57, 3) := by decide +kernel
theorem dX6_init_131 : decode cX6_init 131 = .ok (.return_, 1) := by decide +kernel
theorem dX6_in_0 : decode cX6_in 0 = .ok (.lload_n 0, 1) := by decide +kernel
theorem dX6_in_1 : decode cX6_in 1 = .ok (.lload_n 2, 1) := by decide +kernel
theorem dX6_in_2 : decode cX6_in 2 = .ok (.lcmp, 1) := by decide +kernel
theorem dX6_in_3 : decode cX6_in 3 = .ok (.ifCond .lt 14, 3) := by decide +kernel
theorem dX6_in_6 : decode cX6_in 6 = .ok (.lload_n 0, 1) := by decide +kernel
theorem dX6_in_7 : decode cX6_in 7 = .ok (.lload 4, 2) := by decide +kernel
theorem dX6_in_9 : decode cX6_in 9 = .ok (.lcmp, 1) := by decide +kernel
theorem dX6_in_10 : decode cX6_in 10 = .ok (.ifCond .gt 7, 3) := by decide +kernel
theorem dX6_in_13 : decode cX6_in 13 = .ok (.iconst 1, 1) := by decide +kernel
theorem dX6_in_14 : decode cX6_in 14 = .ok (.goto 4, 3) := by decide +kernel
theorem dX6_in_17 : decode cX6_in 17 = .ok (.iconst 0, 1) := by decide +kernel
theorem dX6_in_18 : decode cX6_in 18 = .ok (.ireturn, 1) := by decide +kernel
theorem dX6_bad_0 : decode cX6_bad 0 = .ok (.aload_n 0, 1) := by decide +kernel
theorem dX6_bad_1 : decode cX6_bad 1 = .ok (.getfield 16, 3) := by decide +kernel
theorem dX6_bad_4 : decode cX6_bad 4 = .ok (.iconst 0, 1) := by decide +kernel
theorem dX6_bad_5 : decode cX6_bad 5 = .ok (.dup2, 1) := by decide +kernel
theorem dX6_bad_6 : decode cX6_bad 6 = .ok (.iaload, 1) := by decide +kernel
theorem dX6_bad_7 : decode cX6_bad 7 = .ok (.iconst 1, 1) := by decide +kernel
theorem dX6_bad_8 : decode cX6_bad 8 = .ok (.iadd, 1) := by decide +kernel
theorem dX6_bad_9 : decode cX6_bad 9 = .ok (.iastore, 1) := by decide +kernel
theorem dX6_bad_10 : decode cX6_bad 10 = .ok (.iload_n 1, 1) := by decide +kernel
theorem dX6_bad_11 : decode cX6_bad 11 = .ok (.ireturn, 1) := by decide +kernel
theorem dX6_no_0 : decode cX6_no 0 = .ok (.aload_n 0, 1) := by decide +kernel
theorem dX6_no_1 : decode cX6_no 1 = .ok (.getfield 16, 3) := by decide +kernel
theorem dX6_no_4 : decode cX6_no 4 = .ok (.iconst 1, 1) := by decide +kernel
theorem dX6_no_5 : decode cX6_no 5 = .ok (.dup2, 1) := by decide +kernel
theorem dX6_no_6 : decode cX6_no 6 = .ok (.iaload, 1) := by decide +kernel
theorem dX6_no_7 : decode cX6_no 7 = .ok (.iconst 1, 1) := by decide +kernel
theorem dX6_no_8 : decode cX6_no 8 = .ok (.iadd, 1) := by decide +kernel
theorem dX6_no_9 : decode cX6_no 9 = .ok (.iastore, 1) := by decide +kernel
theorem dX6_no_10 : decode cX6_no 10 = .ok (.bipush (-3), 2) := by decide +kernel
theorem dX6_no_12 : decode cX6_no 12 = .ok (.ireturn, 1) := by decide +kernel
theorem dX6_full_0 : decode cX6_full 0 = .ok (.aload_n 0, 1) := by decide +kernel
theorem dX6_full_1 : decode cX6_full 1 = .ok (.getfield 16, 3) := by decide +kernel
theorem dX6_full_4 : decode cX6_full 4 = .ok (.iconst 2, 1) := by decide +kernel
theorem dX6_full_5 : decode cX6_full 5 = .ok (.dup2, 1) := by decide +kernel
theorem dX6_full_6 : decode cX6_full 6 = .ok (.iaload, 1) := by decide +kernel
theorem dX6_full_7 : decode cX6_full 7 = .ok (.iconst 1, 1) := by decide +kernel
theorem dX6_full_8 : decode cX6_full 8 = .ok (.iadd, 1) := by decide +kernel
theorem dX6_full_9 : decode cX6_full 9 = .ok (.iastore, 1) := by decide +kernel
theorem dX6_full_10 : decode cX6_full 10 = .ok (.bipush (-4), 2) := by decide +kernel
theorem dX6_full_12 : decode cX6_full 12 = .ok (.ireturn, 1) := by decide +kernel
theorem dX6_isRoom_0 : decode cX6_isRoom 0 = .ok (.iload_n 0, 1) := by decide +kernel
theorem dX6_isRoom_1 : decode cX6_isRoom 1 = .ok (.i2l, 1) := by decide +kernel
theorem dX6_isRoom_2 : decode cX6_isRoom 2 = .ok (.lconst 0, 1) := by decide +kernel
theorem dX6_isRoom_3 : decode cX6_isRoom 3 = .ok (.ldc2_w 60, 3) := by decide +kernel
theorem dX6_isRoom_6 : decode cX6_isRoom 6 = .ok (.invokestatic 62, 3) := by decide +kernel
theorem dX6_isRoom_9 : decode cX6_isRoom 9 = .ok (.ireturn, 1) := by decide +kernel
theorem dX6_at_0 : decode cX6_at 0 = .ok (.aload_n 0, 1) := by decide +kernel
theorem dX6_at_1 : decode cX6_at 1 = .ok (.getfield 7, 3) := by decide +kernel
theorem dX6_at_4 : decode cX6_at 4 = .ok (.bipush 7, 2) := by decide +kernel
theorem dX6_at_6 : decode cX6_at 6 = .ok (.iload_n 1, 1) := by decide +kernel
theorem dX6_at_7 : decode cX6_at 7 = .ok (.imul, 1) := by decide +kernel
theorem dX6_at_8 : decode cX6_at 8 = .ok (.iload_n 2, 1) := by decide +kernel
theorem dX6_at_9 : decode cX6_at 9 = .ok (.iadd, 1) := by decide +kernel
theorem dX6_at_10 : decode cX6_at 10 = .ok (.iaload, 1) := by decide +kernel
theorem dX6_at_11 : decode cX6_at 11 = .ok (.ireturn, 1) := by decide +kernel
theorem dX6_put_0 : decode cX6_put 0 = .ok (.aload_n 0, 1) := by decide +kernel
theorem dX6_put_1 : decode cX6_put 1 = .ok (.getfield 7, 3) := by decide +kernel
theorem dX6_put_4 : decode cX6_put 4 = .ok (.bipush 7, 2) := by decide +kernel
theorem dX6_put_6 : decode cX6_put 6 = .ok (.iload_n 1, 1) := by decide +kernel
theorem dX6_put_7 : decode cX6_put 7 = .ok (.imul, 1) := by decide +kernel
theorem dX6_put_8 : decode cX6_put 8 = .ok (.iload_n 2, 1) := by decide +kernel
theorem dX6_put_9 : decode cX6_put 9 = .ok (.iadd, 1) := by decide +kernel
theorem dX6_put_10 : decode cX6_put 10 = .ok (.iload_n 3, 1) := by decide +kernel
theorem dX6_put_11 : decode cX6_put 11 = .ok (.iastore, 1) := by decide +kernel
theorem dX6_put_12 : decode cX6_put 12 = .ok (.return_, 1) := by decide +kernel
theorem dX6_night_0 : decode cX6_night 0 = .ok (.aload_n 0, 1) := by decide +kernel
theorem dX6_night_1 : decode cX6_night 1 = .ok (.getfield 66, 3) := by decide +kernel
theorem dX6_night_4 : decode cX6_night 4 = .ok (.bipush 8, 2) := by decide +kernel
theorem dX6_night_6 : decode cX6_night 6 = .ok (.if_icmp .ne 43, 3) := by decide +kernel
theorem dX6_night_9 : decode cX6_night 9 = .ok (.iconst 0, 1) := by decide +kernel
theorem dX6_night_10 : decode cX6_night 10 = .ok (.istore_n 1, 1) := by decide +kernel
theorem dX6_night_11 : decode cX6_night 11 = .ok (.iload_n 1, 1) := by decide +kernel
theorem dX6_night_12 : decode cX6_night 12 = .ok (.sipush 406, 3) := by decide +kernel
theorem dX6_night_15 : decode cX6_night 15 = .ok (.if_icmp .ge 24, 3) := by decide +kernel
theorem dX6_night_18 : decode cX6_night 18 = .ok (.aload_n 0, 1) := by decide +kernel
theorem dX6_night_19 : decode cX6_night 19 = .ok (.getfield 13, 3) := by decide +kernel
theorem dX6_night_22 : decode cX6_night 22 = .ok (.iload_n 1, 1) := by decide +kernel
theorem dX6_night_23 : decode cX6_night 23 = .ok (.aload_n 0, 1) := by decide +kernel
theorem dX6_night_24 : decode cX6_night 24 = .ok (.getfield 13, 3) := by decide +kernel
theorem dX6_night_27 : decode cX6_night 27 = .ok (.iload_n 1, 1) := by decide +kernel
theorem dX6_night_28 : decode cX6_night 28 = .ok (.bipush 58, 2) := by decide +kernel
theorem dX6_night_30 : decode cX6_night 30 = .ok (.iadd, 1) := by decide +kernel
theorem dX6_night_31 : decode cX6_night 31 = .ok (.iaload, 1) := by decide +kernel
theorem dX6_night_32 : decode cX6_night 32 = .ok (.iastore, 1) := by decide +kernel
theorem dX6_night_33 : decode cX6_night 33 = .ok (.iinc 1 1, 3) := by decide +kernel
theorem dX6_night_36 : decode cX6_night 36 = .ok (.goto (-25), 3) := by decide +kernel
theorem dX6_night_39 : decode cX6_night 39 = .ok (.aload_n 0, 1) := by decide +kernel
theorem dX6_night_40 : decode cX6_night 40 = .ok (.dup, 1) := by decide +kernel
theorem dX6_night_41 : decode cX6_night 41 = .ok (.getfield 66, 3) := by decide +kernel
theorem dX6_night_44 : decode cX6_night 44 = .ok (.iconst 1, 1) := by decide +kernel
theorem dX6_night_45 : decode cX6_night 45 = .ok (.isub, 1) := by decide +kernel
theorem dX6_night_46 : decode cX6_night 46 = .ok (.putfield 66, 3) := by decide +kernel
theorem dX6_night_49 : decode cX6_night 49 = .ok (.iconst 0, 1) := by decide +kernel
theorem dX6_night_50 : decode cX6_night 50 = .ok (.istore_n 1, 1) := by decide +kernel
theorem dX6_night_51 : decode cX6_night 51 = .ok (.iload_n 1, 1) := by decide +kernel
theorem dX6_night_52 : decode cX6_night 52 = .ok (.bipush 58, 2) := by decide +kernel
theorem dX6_night_54 : decode cX6_night 54 = .ok (.if_icmp .ge 29, 3) := by decide +kernel
theorem dX6_night_57 : decode cX6_night 57 = .ok (.aload_n 0, 1) := by decide +kernel
theorem dX6_night_58 : decode cX6_night 58 = .ok (.getfield 13, 3) := by decide +kernel
theorem dX6_night_61 : decode cX6_night 61 = .ok (.bipush 58, 2) := by decide +kernel
theorem dX6_night_63 : decode cX6_night 63 = .ok (.aload_n 0, 1) := by decide +kernel
theorem dX6_night_64 : decode cX6_night 64 = .ok (.getfield 66, 3) := by decide +kernel
theorem dX6_night_67 : decode cX6_night 67 = .ok (.imul, 1) := by decide +kernel
theorem dX6_night_68 : decode cX6_night 68 = .ok (.iload_n 1, 1) := by decide +kernel
theorem dX6_night_69 : decode cX6_night 69 = .ok (.iadd, 1) := by decide +kernel
theorem dX6_night_70 : decode cX6_night 70 = .ok (.aload_n 0, 1) := by decide +kernel
theorem dX6_night_71 : decode cX6_night 71 = .ok (.getfield 7, 3) := by decide +kernel
theorem dX6_night_74 : decode cX6_night 74 = .ok (.iload_n 1, 1) := by decide +kernel
theorem dX6_night_75 : decode cX6_night 75 = .ok (.iaload, 1) := by decide +kernel
theorem dX6_night_76 : decode cX6_night 76 = .ok (.iastore, 1) := by decide +kernel
theorem dX6_night_77 : decode cX6_night 77 = .ok (.iinc 1 1, 3) := by decide +kernel
theorem dX6_night_80 : decode cX6_night 80 = .ok (.goto (-29), 3) := by decide +kernel
theorem dX6_night_83 : decode cX6_night 83 = .ok (.aload_n 0, 1) := by decide +kernel
theorem dX6_night_84 : decode cX6_night 84 = .ok (.dup, 1) := by decide +kernel
theorem dX6_night_85 : decode cX6_night 85 = .ok (.getfield 66, 3) := by decide +kernel
theorem dX6_night_88 : decode cX6_night 88 = .ok (.iconst 1, 1) := by decide +kernel
theorem dX6_night_89 : decode cX6_night 89 = .ok (.iadd, 1) := by decide +kernel
theorem dX6_night_90 : decode cX6_night 90 = .ok (.putfield 66, 3) := by decide +kernel
theorem dX6_night_93 : decode cX6_night 93 = .ok (.return_, 1) := by decide +kernel
theorem dX6_loudAs_0 : decode cX6_loudAs 0 = .ok (.iconst 2, 1) := by decide +kernel
theorem dX6_loudAs_1 : decode cX6_loudAs 1 = .ok (.istore_n 2, 1) := by decide +kernel
theorem dX6_loudAs_2 : decode cX6_loudAs 2 = .ok (.iload_n 2, 1) := by decide +kernel
theorem dX6_loudAs_3 : decode cX6_loudAs 3 = .ok (.iload_n 1, 1) := by decide +kernel
theorem dX6_loudAs_4 : decode cX6_loudAs 4 = .ok (.iconst 3, 1) := by decide +kernel
theorem dX6_loudAs_5 : decode cX6_loudAs 5 = .ok (.irem, 1) := by decide +kernel
theorem dX6_loudAs_6 : decode cX6_loudAs 6 = .ok (.iadd, 1) := by decide +kernel
theorem dX6_loudAs_7 : decode cX6_loudAs 7 = .ok (.istore_n 3, 1) := by decide +kernel
theorem dX6_loudAs_8 : decode cX6_loudAs 8 = .ok (.iload_n 0, 1) := by decide +kernel
theorem dX6_loudAs_9 : decode cX6_loudAs 9 = .ok (.ifCond .ne 7, 3) := by decide +kernel
theorem dX6_loudAs_12 : decode cX6_loudAs 12 = .ok (.iconst 0, 1) := by decide +kernel
theorem dX6_loudAs_13 : decode cX6_loudAs 13 = .ok (.goto 42, 3) := by decide +kernel
theorem dX6_loudAs_16 : decode cX6_loudAs 16 = .ok (.iload_n 0, 1) := by decide +kernel
theorem dX6_loudAs_17 : decode cX6_loudAs 17 = .ok (.iconst 1, 1) := by decide +kernel
theorem dX6_loudAs_18 : decode cX6_loudAs 18 = .ok (.if_icmp .ne 7, 3) := by decide +kernel
theorem dX6_loudAs_21 : decode cX6_loudAs 21 = .ok (.iload_n 2, 1) := by decide +kernel
theorem dX6_loudAs_22 : decode cX6_loudAs 22 = .ok (.goto 33, 3) := by decide +kernel
theorem dX6_loudAs_25 : decode cX6_loudAs 25 = .ok (.iload_n 0, 1) := by decide +kernel
theorem dX6_loudAs_26 : decode cX6_loudAs 26 = .ok (.iconst 2, 1) := by decide +kernel
theorem dX6_loudAs_27 : decode cX6_loudAs 27 = .ok (.if_icmp .ne 7, 3) := by decide +kernel
theorem dX6_loudAs_30 : decode cX6_loudAs 30 = .ok (.iload_n 3, 1) := by decide +kernel
theorem dX6_loudAs_31 : decode cX6_loudAs 31 = .ok (.goto 24, 3) := by decide +kernel
theorem dX6_loudAs_34 : decode cX6_loudAs 34 = .ok (.iload_n 0, 1) := by decide +kernel
theorem dX6_loudAs_35 : decode cX6_loudAs 35 = .ok (.iconst 3, 1) := by decide +kernel
theorem dX6_loudAs_36 : decode cX6_loudAs 36 = .ok (.if_icmp .ne 16, 3) := by decide +kernel
theorem dX6_loudAs_39 : decode cX6_loudAs 39 = .ok (.iload_n 1, 1) := by decide +kernel
theorem dX6_loudAs_40 : decode cX6_loudAs 40 = .ok (.iconst 2, 1) := by decide +kernel
theorem dX6_loudAs_41 : decode cX6_loudAs 41 = .ok (.if_icmp .le 7, 3) := by decide +kernel
theorem dX6_loudAs_44 : decode cX6_loudAs 44 = .ok (.iconst 0, 1) := by decide +kernel
theorem dX6_loudAs_45 : decode cX6_loudAs 45 = .ok (.goto 10, 3) := by decide +kernel
theorem dX6_loudAs_48 : decode cX6_loudAs 48 = .ok (.iload_n 2, 1) := by decide +kernel
theorem dX6_loudAs_49 : decode cX6_loudAs 49 = .ok (.goto 6, 3) := by decide +kernel
theorem dX6_loudAs_52 : decode cX6_loudAs 52 = .ok (.iconst 2, 1) := by decide +kernel
theorem dX6_loudAs_53 : decode cX6_loudAs 53 = .ok (.iload_n 3, 1) := by decide +kernel
theorem dX6_loudAs_54 : decode cX6_loudAs 54 = .ok (.imul, 1) := by decide +kernel
theorem dX6_loudAs_55 : decode cX6_loudAs 55 = .ok (.ireturn, 1) := by decide +kernel
theorem dX6_loud_0 : decode cX6_loud 0 = .ok (.aload_n 0, 1) := by decide +kernel
theorem dX6_loud_1 : decode cX6_loud 1 = .ok (.iload_n 1, 1) := by decide +kernel
theorem dX6_loud_2 : decode cX6_loud 2 = .ok (.iconst 0, 1) := by decide +kernel
theorem dX6_loud_3 : decode cX6_loud 3 = .ok (.invokevirtual 69, 3) := by decide +kernel
theorem dX6_loud_6 : decode cX6_loud 6 = .ok (.aload_n 0, 1) := by decide +kernel
theorem dX6_loud_7 : decode cX6_loud 7 = .ok (.iload_n 1, 1) := by decide +kernel
theorem dX6_loud_8 : decode cX6_loud 8 = .ok (.bipush 6, 2) := by decide +kernel
theorem dX6_loud_10 : decode cX6_loud 10 = .ok (.invokevirtual 69, 3) := by decide +kernel
theorem dX6_loud_13 : decode cX6_loud 13 = .ok (.invokestatic 73, 3) := by decide +kernel
theorem dX6_loud_16 : decode cX6_loud 16 = .ok (.ireturn, 1) := by decide +kernel
theorem dX6_isAsleep_0 : decode cX6_isAsleep 0 = .ok (.aload_n 0, 1) := by decide +kernel
theorem dX6_isAsleep_1 : decode cX6_isAsleep 1 = .ok (.iload_n 1, 1) := by decide +kernel
theorem dX6_isAsleep_2 : decode cX6_isAsleep 2 = .ok (.iconst 3, 1) := by decide +kernel
theorem dX6_isAsleep_3 : decode cX6_isAsleep 3 = .ok (.invokevirtual 69, 3) := by decide +kernel
theorem dX6_isAsleep_6 : decode cX6_isAsleep 6 = .ok (.ifCond .le 16, 3) := by decide +kernel
theorem dX6_isAsleep_9 : decode cX6_isAsleep 9 = .ok (.aload_n 0, 1) := by decide +kernel
theorem dX6_isAsleep_10 : decode cX6_isAsleep 10 = .ok (.iload_n 1, 1) := by decide +kernel
theorem dX6_isAsleep_11 : decode cX6_isAsleep 11 = .ok (.iconst 4, 1) := by decide +kernel
theorem dX6_isAsleep_12 : decode cX6_isAsleep 12 = .ok (.invokevirtual 69, 3) := by decide +kernel
theorem dX6_isAsleep_15 : decode cX6_isAsleep 15 = .ok (.ifCond .ne 7, 3) := by decide +kernel
theorem dX6_isAsleep_18 : decode cX6_isAsleep 18 = .ok (.iconst 1, 1) := by decide +kernel
theorem dX6_isAsleep_19 : decode cX6_isAsleep 19 = .ok (.goto 4, 3) := by decide +kernel
theorem dX6_isAsleep_22 : decode cX6_isAsleep 22 = .ok (.iconst 0, 1) := by decide +kernel
theorem dX6_isAsleep_23 : decode cX6_isAsleep 23 = .ok (.ireturn, 1) := by decide +kernel
theorem dX6_sets_0 : decode cX6_sets 0 = .ok (.iload_n 2, 1) := by decide +kernel
theorem dX6_sets_1 : decode cX6_sets 1 = .ok (.ifCond .ne 7, 3) := by decide +kernel
theorem dX6_sets_4 : decode cX6_sets 4 = .ok (.iconst 4, 1) := by decide +kernel
theorem dX6_sets_5 : decode cX6_sets 5 = .ok (.goto 14, 3) := by decide +kernel
theorem dX6_sets_8 : decode cX6_sets 8 = .ok (.iload_n 2, 1) := by decide +kernel
theorem dX6_sets_9 : decode cX6_sets 9 = .ok (.iconst 3, 1) := by decide +kernel
theorem dX6_sets_10 : decode cX6_sets 10 = .ok (.if_icmp .ne 8, 3) := by decide +kernel
theorem dX6_sets_13 : decode cX6_sets 13 = .ok (.bipush 9, 2) := by decide +kernel
theorem dX6_sets_15 : decode cX6_sets 15 = .ok (.goto 4, 3) := by decide +kernel
theorem dX6_sets_18 : decode cX6_sets 18 = .ok (.iconst 3, 1) := by decide +kernel
theorem dX6_sets_19 : decode cX6_sets 19 = .ok (.istore 4, 2) := by decide +kernel
theorem dX6_sets_21 : decode cX6_sets 21 = .ok (.iload_n 1, 1) := by decide +kernel
theorem dX6_sets_22 : decode cX6_sets 22 = .ok (.invokestatic 76, 3) := by decide +kernel
theorem dX6_sets_25 : decode cX6_sets 25 = .ok (.ifCond .eq 27, 3) := by decide +kernel
theorem dX6_sets_28 : decode cX6_sets 28 = .ok (.iload_n 2, 1) := by decide +kernel
theorem dX6_sets_29 : decode cX6_sets 29 = .ok (.i2l, 1) := by decide +kernel
theorem dX6_sets_30 : decode cX6_sets 30 = .ok (.lconst 0, 1) := by decide +kernel
theorem dX6_sets_31 : decode cX6_sets 31 = .ok (.ldc2_w 80, 3) := by decide +kernel
theorem dX6_sets_34 : decode cX6_sets 34 = .ok (.invokestatic 62, 3) := by decide +kernel
theorem dX6_sets_37 : decode cX6_sets 37 = .ok (.ifCond .eq 15, 3) := by decide +kernel
theorem dX6_sets_40 : decode cX6_sets 40 = .ok (.iload_n 3, 1) := by decide +kernel
theorem dX6_sets_41 : decode cX6_sets 41 = .ok (.i2l, 1) := by decide +kernel
theorem dX6_sets_42 : decode cX6_sets 42 = .ok (.lconst 0, 1) := by decide +kernel
theorem dX6_sets_43 : decode cX6_sets 43 = .ok (.iload 4, 2) := by decide +kernel
theorem dX6_sets_45 : decode cX6_sets 45 = .ok (.i2l, 1) := by decide +kernel
theorem dX6_sets_46 : decode cX6_sets 46 = .ok (.invokestatic 62, 3) := by decide +kernel
theorem dX6_sets_49 : decode cX6_sets 49 = .ok (.ifCond .ne 10, 3) := by decide +kernel
theorem dX6_sets_52 : decode cX6_sets 52 = .ok (.aload_n 0, 1) := by decide +kernel
theorem dX6_sets_53 : decode cX6_sets 53 = .ok (.bipush (-2), 2) := by decide +kernel
theorem dX6_sets_55 : decode cX6_sets 55 = .ok (.invokevirtual 82, 3) := by decide +kernel
theorem dX6_sets_58 : decode cX6_sets 58 = .ok (.ireturn, 1) := by decide +kernel
theorem dX6_sets_59 : decode cX6_sets 59 = .ok (.aload_n 0, 1) := by decide +kernel
theorem dX6_sets_60 : decode cX6_sets 60 = .ok (.invokevirtual 86, 3) := by decide +kernel
theorem dX6_sets_63 : decode cX6_sets 63 = .ok (.aload_n 0, 1) := by decide +kernel
theorem dX6_sets_64 : decode cX6_sets 64 = .ok (.iload_n 1, 1) := by decide +kernel
theorem dX6_sets_65 : decode cX6_sets 65 = .ok (.iload_n 2, 1) := by decide +kernel
theorem dX6_sets_66 : decode cX6_sets 66 = .ok (.invokevirtual 69, 3) := by decide +kernel
theorem dX6_sets_69 : decode cX6_sets 69 = .ok (.istore 5, 2) := by decide +kernel
theorem dX6_sets_71 : decode cX6_sets 71 = .ok (.aload_n 0, 1) := by decide +kernel
theorem dX6_sets_72 : decode cX6_sets 72 = .ok (.iload_n 1, 1) := by decide +kernel
theorem dX6_sets_73 : decode cX6_sets 73 = .ok (.iload_n 2, 1) := by decide +kernel
theorem dX6_sets_74 : decode cX6_sets 74 = .ok (.iload_n 3, 1) := by decide +kernel
theorem dX6_sets_75 : decode cX6_sets 75 = .ok (.invokevirtual 89, 3) := by decide +kernel
theorem dX6_sets_78 : decode cX6_sets 78 = .ok (.iload_n 2, 1) := by decide +kernel
theorem dX6_sets_79 : decode cX6_sets 79 = .ok (.iconst 3, 1) := by decide +kernel
theorem dX6_sets_80 : decode cX6_sets 80 = .ok (.if_icmp .ne 10, 3) := by decide +kernel
theorem dX6_sets_83 : decode cX6_sets 83 = .ok (.aload_n 0, 1) := by decide +kernel
theorem dX6_sets_84 : decode cX6_sets 84 = .ok (.iload_n 1, 1) := by decide +kernel
theorem dX6_sets_85 : decode cX6_sets 85 = .ok (.iconst 4, 1) := by decide +kernel
theorem dX6_sets_86 : decode cX6_sets 86 = .ok (.iconst 0, 1) := by decide +kernel
theorem dX6_sets_87 : decode cX6_sets 87 = .ok (.invokevirtual 89, 3) := by decide +kernel
theorem dX6_sets_90 : decode cX6_sets 90 = .ok (.iload 5, 2) := by decide +kernel
theorem dX6_sets_92 : decode cX6_sets 92 = .ok (.ireturn, 1) := by decide +kernel
theorem dX6_toldOf_0 : decode cX6_toldOf 0 = .ok (.iload_n 2, 1) := by decide +kernel
theorem dX6_toldOf_1 : decode cX6_toldOf 1 = .ok (.lookupswitch 53 #[(4, 27), (7, 47)], 27) := by decide +kernel
theorem dX6_toldOf_28 : decode cX6_toldOf 28 = .ok (.aload_n 0, 1) := by decide +kernel
theorem dX6_toldOf_29 : decode cX6_toldOf 29 = .ok (.iload_n 1, 1) := by decide +kernel
theorem dX6_toldOf_30 : decode cX6_toldOf 30 = .ok (.iconst 3, 1) := by decide +kernel
theorem dX6_toldOf_31 : decode cX6_toldOf 31 = .ok (.invokevirtual 69, 3) := by decide +kernel
theorem dX6_toldOf_34 : decode cX6_toldOf 34 = .ok (.ifCond .le 12, 3) := by decide +kernel
theorem dX6_toldOf_37 : decode cX6_toldOf 37 = .ok (.aload_n 0, 1) := by decide +kernel
theorem dX6_toldOf_38 : decode cX6_toldOf 38 = .ok (.iload_n 1, 1) := by decide +kernel
theorem dX6_toldOf_39 : decode cX6_toldOf 39 = .ok (.iconst 4, 1) := by decide +kernel
theorem dX6_toldOf_40 : decode cX6_toldOf 40 = .ok (.invokevirtual 69, 3) := by decide +kernel
theorem dX6_toldOf_43 : decode cX6_toldOf 43 = .ok (.goto 4, 3) := by decide +kernel
theorem dX6_toldOf_46 : decode cX6_toldOf 46 = .ok (.iconst 0, 1) := by decide +kernel
theorem dX6_toldOf_47 : decode cX6_toldOf 47 = .ok (.ireturn, 1) := by decide +kernel
theorem dX6_toldOf_48 : decode cX6_toldOf 48 = .ok (.aload_n 0, 1) := by decide +kernel
theorem dX6_toldOf_49 : decode cX6_toldOf 49 = .ok (.iload_n 1, 1) := by decide +kernel
theorem dX6_toldOf_50 : decode cX6_toldOf 50 = .ok (.invokevirtual 93, 3) := by decide +kernel
theorem dX6_toldOf_53 : decode cX6_toldOf 53 = .ok (.ireturn, 1) := by decide +kernel
theorem dX6_toldOf_54 : decode cX6_toldOf 54 = .ok (.aload_n 0, 1) := by decide +kernel
theorem dX6_toldOf_55 : decode cX6_toldOf 55 = .ok (.iload_n 1, 1) := by decide +kernel
theorem dX6_toldOf_56 : decode cX6_toldOf 56 = .ok (.iload_n 2, 1) := by decide +kernel
theorem dX6_toldOf_57 : decode cX6_toldOf 57 = .ok (.invokevirtual 69, 3) := by decide +kernel
theorem dX6_toldOf_60 : decode cX6_toldOf 60 = .ok (.ireturn, 1) := by decide +kernel
theorem dX6_of_0 : decode cX6_of 0 = .ok (.iload_n 1, 1) := by decide +kernel
theorem dX6_of_1 : decode cX6_of 1 = .ok (.invokestatic 76, 3) := by decide +kernel
theorem dX6_of_4 : decode cX6_of 4 = .ok (.ifCond .eq 24, 3) := by decide +kernel
theorem dX6_of_7 : decode cX6_of 7 = .ok (.iload_n 2, 1) := by decide +kernel
theorem dX6_of_8 : decode cX6_of 8 = .ok (.i2l, 1) := by decide +kernel
theorem dX6_of_9 : decode cX6_of 9 = .ok (.lconst 0, 1) := by decide +kernel
theorem dX6_of_10 : decode cX6_of 10 = .ok (.ldc2_w 60, 3) := by decide +kernel
theorem dX6_of_13 : decode cX6_of 13 = .ok (.invokestatic 62, 3) := by decide +kernel
theorem dX6_of_16 : decode cX6_of 16 = .ok (.ifCond .eq 12, 3) := by decide +kernel
theorem dX6_of_19 : decode cX6_of 19 = .ok (.aload_n 0, 1) := by decide +kernel
theorem dX6_of_20 : decode cX6_of 20 = .ok (.iload_n 1, 1) := by decide +kernel
theorem dX6_of_21 : decode cX6_of 21 = .ok (.iload_n 2, 1) := by decide +kernel
theorem dX6_of_22 : decode cX6_of 22 = .ok (.invokevirtual 96, 3) := by decide +kernel
theorem dX6_of_25 : decode cX6_of 25 = .ok (.goto 9, 3) := by decide +kernel
theorem dX6_of_28 : decode cX6_of 28 = .ok (.aload_n 0, 1) := by decide +kernel
theorem dX6_of_29 : decode cX6_of 29 = .ok (.bipush (-2), 2) := by decide +kernel
theorem dX6_of_31 : decode cX6_of 31 = .ok (.invokevirtual 82, 3) := by decide +kernel
theorem dX6_of_34 : decode cX6_of 34 = .ok (.ireturn, 1) := by decide +kernel
theorem dX6_keys_0 : decode cX6_keys 0 = .ok (.iload_n 1, 1) := by decide +kernel
theorem dX6_keys_1 : decode cX6_keys 1 = .ok (.i2l, 1) := by decide +kernel
theorem dX6_keys_2 : decode cX6_keys 2 = .ok (.lconst 0, 1) := by decide +kernel
theorem dX6_keys_3 : decode cX6_keys 3 = .ok (.ldc2_w 99, 3) := by decide +kernel
theorem dX6_keys_6 : decode cX6_keys 6 = .ok (.invokestatic 62, 3) := by decide +kernel
theorem dX6_keys_9 : decode cX6_keys 9 = .ok (.ifCond .eq 10, 3) := by decide +kernel
theorem dX6_keys_12 : decode cX6_keys 12 = .ok (.iload_n 1, 1) := by decide +kernel
theorem dX6_keys_13 : decode cX6_keys 13 = .ok (.iconst 2, 1) := by decide +kernel
theorem dX6_keys_14 : decode cX6_keys 14 = .ok (.irem, 1) := by decide +kernel
theorem dX6_keys_15 : decode cX6_keys 15 = .ok (.iconst 1, 1) := by decide +kernel
theorem dX6_keys_16 : decode cX6_keys 16 = .ok (.if_icmp .ne 10, 3) := by decide +kernel
theorem dX6_keys_19 : decode cX6_keys 19 = .ok (.aload_n 0, 1) := by decide +kernel
theorem dX6_keys_20 : decode cX6_keys 20 = .ok (.bipush (-2), 2) := by decide +kernel
theorem dX6_keys_22 : decode cX6_keys 22 = .ok (.invokevirtual 82, 3) := by decide +kernel
theorem dX6_keys_25 : decode cX6_keys 25 = .ok (.ireturn, 1) := by decide +kernel
theorem dX6_keys_26 : decode cX6_keys 26 = .ok (.aload_n 0, 1) := by decide +kernel
theorem dX6_keys_27 : decode cX6_keys 27 = .ok (.invokevirtual 86, 3) := by decide +kernel
theorem dX6_keys_30 : decode cX6_keys 30 = .ok (.aload_n 0, 1) := by decide +kernel
theorem dX6_keys_31 : decode cX6_keys 31 = .ok (.getfield 7, 3) := by decide +kernel
theorem dX6_keys_34 : decode cX6_keys 34 = .ok (.bipush 56, 2) := by decide +kernel
theorem dX6_keys_36 : decode cX6_keys 36 = .ok (.iaload, 1) := by decide +kernel
theorem dX6_keys_37 : decode cX6_keys 37 = .ok (.istore_n 2, 1) := by decide +kernel
theorem dX6_keys_38 : decode cX6_keys 38 = .ok (.aload_n 0, 1) := by decide +kernel
theorem dX6_keys_39 : decode cX6_keys 39 = .ok (.getfield 7, 3) := by decide +kernel
theorem dX6_keys_42 : decode cX6_keys 42 = .ok (.bipush 56, 2) := by decide +kernel
theorem dX6_keys_44 : decode cX6_keys 44 = .ok (.iload_n 1, 1) := by decide +kernel
theorem dX6_keys_45 : decode cX6_keys 45 = .ok (.iastore, 1) := by decide +kernel
theorem dX6_keys_46 : decode cX6_keys 46 = .ok (.iload_n 2, 1) := by decide +kernel
theorem dX6_keys_47 : decode cX6_keys 47 = .ok (.ireturn, 1) := by decide +kernel
theorem dX6_awake_0 : decode cX6_awake 0 = .ok (.iconst 0, 1) := by decide +kernel
theorem dX6_awake_1 : decode cX6_awake 1 = .ok (.istore_n 1, 1) := by decide +kernel
theorem dX6_awake_2 : decode cX6_awake 2 = .ok (.iconst 0, 1) := by decide +kernel
theorem dX6_awake_3 : decode cX6_awake 3 = .ok (.istore_n 2, 1) := by decide +kernel
theorem dX6_awake_4 : decode cX6_awake 4 = .ok (.iload_n 2, 1) := by decide +kernel
theorem dX6_awake_5 : decode cX6_awake 5 = .ok (.bipush 8, 2) := by decide +kernel
theorem dX6_awake_7 : decode cX6_awake 7 = .ok (.if_icmp .ge 18, 3) := by decide +kernel
theorem dX6_awake_10 : decode cX6_awake 10 = .ok (.iload_n 1, 1) := by decide +kernel
theorem dX6_awake_11 : decode cX6_awake 11 = .ok (.aload_n 0, 1) := by decide +kernel
theorem dX6_awake_12 : decode cX6_awake 12 = .ok (.iload_n 2, 1) := by decide +kernel
theorem dX6_awake_13 : decode cX6_awake 13 = .ok (.iconst 4, 1) := by decide +kernel
theorem dX6_awake_14 : decode cX6_awake 14 = .ok (.invokevirtual 96, 3) := by decide +kernel
theorem dX6_awake_17 : decode cX6_awake 17 = .ok (.iadd, 1) := by decide +kernel
theorem dX6_awake_18 : decode cX6_awake 18 = .ok (.istore_n 1, 1) := by decide +kernel
theorem dX6_awake_19 : decode cX6_awake 19 = .ok (.iinc 2 1, 3) := by decide +kernel
theorem dX6_awake_22 : decode cX6_awake 22 = .ok (.goto (-18), 3) := by decide +kernel
theorem dX6_awake_25 : decode cX6_awake 25 = .ok (.iload_n 1, 1) := by decide +kernel
theorem dX6_awake_26 : decode cX6_awake 26 = .ok (.ireturn, 1) := by decide +kernel
theorem dX6_dusk_0 : decode cX6_dusk 0 = .ok (.aload_n 0, 1) := by decide +kernel
theorem dX6_dusk_1 : decode cX6_dusk 1 = .ok (.invokevirtual 101, 3) := by decide +kernel
theorem dX6_dusk_4 : decode cX6_dusk 4 = .ok (.istore_n 1, 1) := by decide +kernel
theorem dX6_dusk_5 : decode cX6_dusk 5 = .ok (.aload_n 0, 1) := by decide +kernel
theorem dX6_dusk_6 : decode cX6_dusk 6 = .ok (.invokevirtual 86, 3) := by decide +kernel
theorem dX6_dusk_9 : decode cX6_dusk 9 = .ok (.iconst 0, 1) := by decide +kernel
theorem dX6_dusk_10 : decode cX6_dusk 10 = .ok (.istore_n 2, 1) := by decide +kernel
theorem dX6_dusk_11 : decode cX6_dusk 11 = .ok (.iload_n 2, 1) := by decide +kernel
theorem dX6_dusk_12 : decode cX6_dusk 12 = .ok (.bipush 8, 2) := by decide +kernel
theorem dX6_dusk_14 : decode cX6_dusk 14 = .ok (.if_icmp .ge 23, 3) := by decide +kernel
theorem dX6_dusk_17 : decode cX6_dusk 17 = .ok (.aload_n 0, 1) := by decide +kernel
theorem dX6_dusk_18 : decode cX6_dusk 18 = .ok (.iload_n 2, 1) := by decide +kernel
end
section
theorem dX6_dusk_19 : decode cX6_dusk 19 = .ok (.iconst 4, 1) := by decide +kernel
theorem dX6_dusk_20 : decode cX6_dusk 20 = .ok (.iconst 0, 1) := by decide +kernel
theorem dX6_dusk_21 : decode cX6_dusk 21 = .ok (.invokevirtual 89, 3) := by decide +kernel
theorem dX6_dusk_24 : decode cX6_dusk 24 = .ok (.aload_n 0, 1) := by decide +kernel
theorem dX6_dusk_25 : decode cX6_dusk 25 = .ok (.iload_n 2, 1) := by decide +kernel
theorem dX6_dusk_26 : decode cX6_dusk 26 = .ok (.iconst 5, 1) := by decide +kernel
theorem dX6_dusk_27 : decode cX6_dusk 27 = .ok (.iconst 0, 1) := by decide +kernel
theorem dX6_dusk_28 : decode cX6_dusk 28 = .ok (.invokevirtual 89, 3) := by decide +kernel
theorem dX6_dusk_31 : decode cX6_dusk 31 = .ok (.iinc 2 1, 3) := by decide +kernel
theorem dX6_dusk_34 : decode cX6_dusk 34 = .ok (.goto (-23), 3) := by decide +kernel
theorem dX6_dusk_37 : decode cX6_dusk 37 = .ok (.iload_n 1, 1) := by decide +kernel
theorem dX6_dusk_38 : decode cX6_dusk 38 = .ok (.ireturn, 1) := by decide +kernel
theorem dX6_type_0 : decode cX6_type 0 = .ok (.iload_n 1, 1) := by decide +kernel
theorem dX6_type_1 : decode cX6_type 1 = .ok (.i2l, 1) := by decide +kernel
theorem dX6_type_2 : decode cX6_type 2 = .ok (.lconst 0, 1) := by decide +kernel
theorem dX6_type_3 : decode cX6_type 3 = .ok (.ldc2_w 105, 3) := by decide +kernel
theorem dX6_type_6 : decode cX6_type 6 = .ok (.invokestatic 62, 3) := by decide +kernel
theorem dX6_type_9 : decode cX6_type 9 = .ok (.ifCond .ne 10, 3) := by decide +kernel
theorem dX6_type_12 : decode cX6_type 12 = .ok (.aload_n 0, 1) := by decide +kernel
theorem dX6_type_13 : decode cX6_type 13 = .ok (.bipush (-2), 2) := by decide +kernel
theorem dX6_type_15 : decode cX6_type 15 = .ok (.invokevirtual 82, 3) := by decide +kernel
theorem dX6_type_18 : decode cX6_type 18 = .ok (.ireturn, 1) := by decide +kernel
theorem dX6_type_19 : decode cX6_type 19 = .ok (.aload_n 0, 1) := by decide +kernel
theorem dX6_type_20 : decode cX6_type 20 = .ok (.getfield 107, 3) := by decide +kernel
theorem dX6_type_23 : decode cX6_type 23 = .ok (.bipush 100, 2) := by decide +kernel
theorem dX6_type_25 : decode cX6_type 25 = .ok (.if_icmp .ne 8, 3) := by decide +kernel
theorem dX6_type_28 : decode cX6_type 28 = .ok (.aload_n 0, 1) := by decide +kernel
theorem dX6_type_29 : decode cX6_type 29 = .ok (.invokevirtual 110, 3) := by decide +kernel
theorem dX6_type_32 : decode cX6_type 32 = .ok (.ireturn, 1) := by decide +kernel
theorem dX6_type_33 : decode cX6_type 33 = .ok (.aload_n 0, 1) := by decide +kernel
theorem dX6_type_34 : decode cX6_type 34 = .ok (.getfield 19, 3) := by decide +kernel
theorem dX6_type_37 : decode cX6_type 37 = .ok (.aload_n 0, 1) := by decide +kernel
theorem dX6_type_38 : decode cX6_type 38 = .ok (.getfield 107, 3) := by decide +kernel
theorem dX6_type_41 : decode cX6_type 41 = .ok (.iload_n 1, 1) := by decide +kernel
theorem dX6_type_42 : decode cX6_type 42 = .ok (.iastore, 1) := by decide +kernel
theorem dX6_type_43 : decode cX6_type 43 = .ok (.aload_n 0, 1) := by decide +kernel
theorem dX6_type_44 : decode cX6_type 44 = .ok (.dup, 1) := by decide +kernel
theorem dX6_type_45 : decode cX6_type 45 = .ok (.getfield 107, 3) := by decide +kernel
theorem dX6_type_48 : decode cX6_type 48 = .ok (.iconst 1, 1) := by decide +kernel
theorem dX6_type_49 : decode cX6_type 49 = .ok (.iadd, 1) := by decide +kernel
theorem dX6_type_50 : decode cX6_type 50 = .ok (.putfield 107, 3) := by decide +kernel
theorem dX6_type_53 : decode cX6_type 53 = .ok (.aload_n 0, 1) := by decide +kernel
theorem dX6_type_54 : decode cX6_type 54 = .ok (.getfield 107, 3) := by decide +kernel
theorem dX6_type_57 : decode cX6_type 57 = .ok (.ireturn, 1) := by decide +kernel
theorem dX6_clear_0 : decode cX6_clear 0 = .ok (.aload_n 0, 1) := by decide +kernel
theorem dX6_clear_1 : decode cX6_clear 1 = .ok (.getfield 107, 3) := by decide +kernel
theorem dX6_clear_4 : decode cX6_clear 4 = .ok (.istore_n 1, 1) := by decide +kernel
theorem dX6_clear_5 : decode cX6_clear 5 = .ok (.aload_n 0, 1) := by decide +kernel
theorem dX6_clear_6 : decode cX6_clear 6 = .ok (.iconst 0, 1) := by decide +kernel
theorem dX6_clear_7 : decode cX6_clear 7 = .ok (.putfield 107, 3) := by decide +kernel
theorem dX6_clear_10 : decode cX6_clear 10 = .ok (.iload_n 1, 1) := by decide +kernel
theorem dX6_clear_11 : decode cX6_clear 11 = .ok (.ireturn, 1) := by decide +kernel
theorem dX6_skip_0 : decode cX6_skip 0 = .ok (.aload_n 0, 1) := by decide +kernel
theorem dX6_skip_1 : decode cX6_skip 1 = .ok (.getfield 113, 3) := by decide +kernel
theorem dX6_skip_4 : decode cX6_skip 4 = .ok (.aload_n 0, 1) := by decide +kernel
theorem dX6_skip_5 : decode cX6_skip 5 = .ok (.getfield 107, 3) := by decide +kernel
theorem dX6_skip_8 : decode cX6_skip 8 = .ok (.if_icmp .ge 30, 3) := by decide +kernel
theorem dX6_skip_11 : decode cX6_skip 11 = .ok (.aload_n 0, 1) := by decide +kernel
theorem dX6_skip_12 : decode cX6_skip 12 = .ok (.getfield 19, 3) := by decide +kernel
theorem dX6_skip_15 : decode cX6_skip 15 = .ok (.aload_n 0, 1) := by decide +kernel
theorem dX6_skip_16 : decode cX6_skip 16 = .ok (.getfield 113, 3) := by decide +kernel
theorem dX6_skip_19 : decode cX6_skip 19 = .ok (.iaload, 1) := by decide +kernel
theorem dX6_skip_20 : decode cX6_skip 20 = .ok (.bipush 32, 2) := by decide +kernel
theorem dX6_skip_22 : decode cX6_skip 22 = .ok (.if_icmp .ne 16, 3) := by decide +kernel
theorem dX6_skip_25 : decode cX6_skip 25 = .ok (.aload_n 0, 1) := by decide +kernel
theorem dX6_skip_26 : decode cX6_skip 26 = .ok (.dup, 1) := by decide +kernel
theorem dX6_skip_27 : decode cX6_skip 27 = .ok (.getfield 113, 3) := by decide +kernel
theorem dX6_skip_30 : decode cX6_skip 30 = .ok (.iconst 1, 1) := by decide +kernel
theorem dX6_skip_31 : decode cX6_skip 31 = .ok (.iadd, 1) := by decide +kernel
theorem dX6_skip_32 : decode cX6_skip 32 = .ok (.putfield 113, 3) := by decide +kernel
theorem dX6_skip_35 : decode cX6_skip 35 = .ok (.goto (-35), 3) := by decide +kernel
theorem dX6_skip_38 : decode cX6_skip 38 = .ok (.return_, 1) := by decide +kernel
theorem dX6_meets_0 : decode cX6_meets 0 = .ok (.aload_n 0, 1) := by decide +kernel
theorem dX6_meets_1 : decode cX6_meets 1 = .ok (.invokevirtual 116, 3) := by decide +kernel
theorem dX6_meets_4 : decode cX6_meets 4 = .ok (.aload_n 0, 1) := by decide +kernel
theorem dX6_meets_5 : decode cX6_meets 5 = .ok (.getfield 113, 3) := by decide +kernel
theorem dX6_meets_8 : decode cX6_meets 8 = .ok (.aload_n 0, 1) := by decide +kernel
theorem dX6_meets_9 : decode cX6_meets 9 = .ok (.getfield 107, 3) := by decide +kernel
theorem dX6_meets_12 : decode cX6_meets 12 = .ok (.if_icmp .ge 27, 3) := by decide +kernel
theorem dX6_meets_15 : decode cX6_meets 15 = .ok (.aload_n 0, 1) := by decide +kernel
theorem dX6_meets_16 : decode cX6_meets 16 = .ok (.getfield 19, 3) := by decide +kernel
theorem dX6_meets_19 : decode cX6_meets 19 = .ok (.aload_n 0, 1) := by decide +kernel
theorem dX6_meets_20 : decode cX6_meets 20 = .ok (.getfield 113, 3) := by decide +kernel
theorem dX6_meets_23 : decode cX6_meets 23 = .ok (.iaload, 1) := by decide +kernel
theorem dX6_meets_24 : decode cX6_meets 24 = .ok (.i2l, 1) := by decide +kernel
theorem dX6_meets_25 : decode cX6_meets 25 = .ok (.iload_n 1, 1) := by decide +kernel
theorem dX6_meets_26 : decode cX6_meets 26 = .ok (.i2l, 1) := by decide +kernel
theorem dX6_meets_27 : decode cX6_meets 27 = .ok (.iload_n 2, 1) := by decide +kernel
theorem dX6_meets_28 : decode cX6_meets 28 = .ok (.i2l, 1) := by decide +kernel
theorem dX6_meets_29 : decode cX6_meets 29 = .ok (.invokestatic 62, 3) := by decide +kernel
theorem dX6_meets_32 : decode cX6_meets 32 = .ok (.ifCond .eq 7, 3) := by decide +kernel
theorem dX6_meets_35 : decode cX6_meets 35 = .ok (.iconst 1, 1) := by decide +kernel
theorem dX6_meets_36 : decode cX6_meets 36 = .ok (.goto 4, 3) := by decide +kernel
theorem dX6_meets_39 : decode cX6_meets 39 = .ok (.iconst 0, 1) := by decide +kernel
theorem dX6_meets_40 : decode cX6_meets 40 = .ok (.istore_n 3, 1) := by decide +kernel
theorem dX6_meets_41 : decode cX6_meets 41 = .ok (.aload_n 0, 1) := by decide +kernel
theorem dX6_meets_42 : decode cX6_meets 42 = .ok (.dup, 1) := by decide +kernel
theorem dX6_meets_43 : decode cX6_meets 43 = .ok (.getfield 113, 3) := by decide +kernel
theorem dX6_meets_46 : decode cX6_meets 46 = .ok (.iload_n 3, 1) := by decide +kernel
theorem dX6_meets_47 : decode cX6_meets 47 = .ok (.ifCond .eq 7, 3) := by decide +kernel
theorem dX6_meets_50 : decode cX6_meets 50 = .ok (.iconst 1, 1) := by decide +kernel
theorem dX6_meets_51 : decode cX6_meets 51 = .ok (.goto 4, 3) := by decide +kernel
theorem dX6_meets_54 : decode cX6_meets 54 = .ok (.iconst 0, 1) := by decide +kernel
theorem dX6_meets_55 : decode cX6_meets 55 = .ok (.iadd, 1) := by decide +kernel
theorem dX6_meets_56 : decode cX6_meets 56 = .ok (.putfield 113, 3) := by decide +kernel
theorem dX6_meets_59 : decode cX6_meets 59 = .ok (.iload_n 3, 1) := by decide +kernel
theorem dX6_meets_60 : decode cX6_meets 60 = .ok (.ireturn, 1) := by decide +kernel
theorem dX6_opens_0 : decode cX6_opens 0 = .ok (.iload_n 0, 1) := by decide +kernel
theorem dX6_opens_1 : decode cX6_opens 1 = .ok (.i2l, 1) := by decide +kernel
theorem dX6_opens_2 : decode cX6_opens 2 = .ok (.ldc2_w 119, 3) := by decide +kernel
theorem dX6_opens_5 : decode cX6_opens 5 = .ok (.ldc2_w 121, 3) := by decide +kernel
theorem dX6_opens_8 : decode cX6_opens 8 = .ok (.invokestatic 62, 3) := by decide +kernel
theorem dX6_opens_11 : decode cX6_opens 11 = .ok (.ifCond .ne 27, 3) := by decide +kernel
theorem dX6_opens_14 : decode cX6_opens 14 = .ok (.iload_n 0, 1) := by decide +kernel
theorem dX6_opens_15 : decode cX6_opens 15 = .ok (.bipush 40, 2) := by decide +kernel
theorem dX6_opens_17 : decode cX6_opens 17 = .ok (.if_icmp .eq 21, 3) := by decide +kernel
theorem dX6_opens_20 : decode cX6_opens 20 = .ok (.iload_n 0, 1) := by decide +kernel
theorem dX6_opens_21 : decode cX6_opens 21 = .ok (.bipush 91, 2) := by decide +kernel
theorem dX6_opens_23 : decode cX6_opens 23 = .ok (.if_icmp .eq 15, 3) := by decide +kernel
theorem dX6_opens_26 : decode cX6_opens 26 = .ok (.iload_n 0, 1) := by decide +kernel
theorem dX6_opens_27 : decode cX6_opens 27 = .ok (.bipush 60, 2) := by decide +kernel
theorem dX6_opens_29 : decode cX6_opens 29 = .ok (.if_icmp .eq 9, 3) := by decide +kernel
theorem dX6_opens_32 : decode cX6_opens 32 = .ok (.iload_n 0, 1) := by decide +kernel
theorem dX6_opens_33 : decode cX6_opens 33 = .ok (.bipush 120, 2) := by decide +kernel
theorem dX6_opens_35 : decode cX6_opens 35 = .ok (.if_icmp .ne 7, 3) := by decide +kernel
theorem dX6_opens_38 : decode cX6_opens 38 = .ok (.iconst 1, 1) := by decide +kernel
theorem dX6_opens_39 : decode cX6_opens 39 = .ok (.goto 4, 3) := by decide +kernel
theorem dX6_opens_42 : decode cX6_opens 42 = .ok (.iconst 0, 1) := by decide +kernel
theorem dX6_opens_43 : decode cX6_opens 43 = .ok (.ireturn, 1) := by decide +kernel
theorem dX6_endsBy_0 : decode cX6_endsBy 0 = .ok (.iload_n 0, 1) := by decide +kernel
theorem dX6_endsBy_1 : decode cX6_endsBy 1 = .ok (.i2l, 1) := by decide +kernel
theorem dX6_endsBy_2 : decode cX6_endsBy 2 = .ok (.ldc2_w 119, 3) := by decide +kernel
theorem dX6_endsBy_5 : decode cX6_endsBy 5 = .ok (.ldc2_w 121, 3) := by decide +kernel
theorem dX6_endsBy_8 : decode cX6_endsBy 8 = .ok (.invokestatic 62, 3) := by decide +kernel
theorem dX6_endsBy_11 : decode cX6_endsBy 11 = .ok (.ifCond .eq 8, 3) := by decide +kernel
theorem dX6_endsBy_14 : decode cX6_endsBy 14 = .ok (.bipush 125, 2) := by decide +kernel
theorem dX6_endsBy_16 : decode cX6_endsBy 16 = .ok (.goto 38, 3) := by decide +kernel
theorem dX6_endsBy_19 : decode cX6_endsBy 19 = .ok (.iload_n 0, 1) := by decide +kernel
theorem dX6_endsBy_20 : decode cX6_endsBy 20 = .ok (.bipush 40, 2) := by decide +kernel
theorem dX6_endsBy_22 : decode cX6_endsBy 22 = .ok (.if_icmp .ne 8, 3) := by decide +kernel
theorem dX6_endsBy_25 : decode cX6_endsBy 25 = .ok (.bipush 41, 2) := by decide +kernel
theorem dX6_endsBy_27 : decode cX6_endsBy 27 = .ok (.goto 27, 3) := by decide +kernel
theorem dX6_endsBy_30 : decode cX6_endsBy 30 = .ok (.iload_n 0, 1) := by decide +kernel
theorem dX6_endsBy_31 : decode cX6_endsBy 31 = .ok (.bipush 91, 2) := by decide +kernel
theorem dX6_endsBy_33 : decode cX6_endsBy 33 = .ok (.if_icmp .ne 8, 3) := by decide +kernel
theorem dX6_endsBy_36 : decode cX6_endsBy 36 = .ok (.bipush 93, 2) := by decide +kernel
theorem dX6_endsBy_38 : decode cX6_endsBy 38 = .ok (.goto 16, 3) := by decide +kernel
theorem dX6_endsBy_41 : decode cX6_endsBy 41 = .ok (.iload_n 0, 1) := by decide +kernel
theorem dX6_endsBy_42 : decode cX6_endsBy 42 = .ok (.bipush 60, 2) := by decide +kernel
theorem dX6_endsBy_44 : decode cX6_endsBy 44 = .ok (.if_icmp .ne 8, 3) := by decide +kernel
theorem dX6_endsBy_47 : decode cX6_endsBy 47 = .ok (.bipush 62, 2) := by decide +kernel
theorem dX6_endsBy_49 : decode cX6_endsBy 49 = .ok (.goto 5, 3) := by decide +kernel
theorem dX6_endsBy_52 : decode cX6_endsBy 52 = .ok (.bipush 59, 2) := by decide +kernel
theorem dX6_endsBy_54 : decode cX6_endsBy 54 = .ok (.ireturn, 1) := by decide +kernel
theorem dX6_reads_0 : decode cX6_reads 0 = .ok (.iconst 0, 1) := by decide +kernel
theorem dX6_reads_1 : decode cX6_reads 1 = .ok (.istore_n 1, 1) := by decide +kernel
theorem dX6_reads_2 : decode cX6_reads 2 = .ok (.aload_n 0, 1) := by decide +kernel
theorem dX6_reads_3 : decode cX6_reads 3 = .ok (.iconst 0, 1) := by decide +kernel
theorem dX6_reads_4 : decode cX6_reads 4 = .ok (.putfield 123, 3) := by decide +kernel
theorem dX6_reads_7 : decode cX6_reads 7 = .ok (.aload_n 0, 1) := by decide +kernel
theorem dX6_reads_8 : decode cX6_reads 8 = .ok (.iconst 0, 1) := by decide +kernel
theorem dX6_reads_9 : decode cX6_reads 9 = .ok (.putfield 126, 3) := by decide +kernel
theorem dX6_reads_12 : decode cX6_reads 12 = .ok (.aload_n 0, 1) := by decide +kernel
theorem dX6_reads_13 : decode cX6_reads 13 = .ok (.iconst 0, 1) := by decide +kernel
theorem dX6_reads_14 : decode cX6_reads 14 = .ok (.putfield 129, 3) := by decide +kernel
theorem dX6_reads_17 : decode cX6_reads 17 = .ok (.aload_n 0, 1) := by decide +kernel
theorem dX6_reads_18 : decode cX6_reads 18 = .ok (.iconst 0, 1) := by decide +kernel
theorem dX6_reads_19 : decode cX6_reads 19 = .ok (.putfield 113, 3) := by decide +kernel
theorem dX6_reads_22 : decode cX6_reads 22 = .ok (.aload_n 0, 1) := by decide +kernel
theorem dX6_reads_23 : decode cX6_reads 23 = .ok (.invokevirtual 116, 3) := by decide +kernel
theorem dX6_reads_26 : decode cX6_reads 26 = .ok (.aload_n 0, 1) := by decide +kernel
theorem dX6_reads_27 : decode cX6_reads 27 = .ok (.getfield 113, 3) := by decide +kernel
theorem dX6_reads_30 : decode cX6_reads 30 = .ok (.aload_n 0, 1) := by decide +kernel
theorem dX6_reads_31 : decode cX6_reads 31 = .ok (.getfield 107, 3) := by decide +kernel
theorem dX6_reads_34 : decode cX6_reads 34 = .ok (.if_icmp .ge 449, 3) := by decide +kernel
theorem dX6_reads_37 : decode cX6_reads 37 = .ok (.aload_n 0, 1) := by decide +kernel
theorem dX6_reads_38 : decode cX6_reads 38 = .ok (.getfield 113, 3) := by decide +kernel
theorem dX6_reads_41 : decode cX6_reads 41 = .ok (.istore_n 2, 1) := by decide +kernel
theorem dX6_reads_42 : decode cX6_reads 42 = .ok (.aload_n 0, 1) := by decide +kernel
theorem dX6_reads_43 : decode cX6_reads 43 = .ok (.getfield 19, 3) := by decide +kernel
theorem dX6_reads_46 : decode cX6_reads 46 = .ok (.iload_n 2, 1) := by decide +kernel
theorem dX6_reads_47 : decode cX6_reads 47 = .ok (.iaload, 1) := by decide +kernel
theorem dX6_reads_48 : decode cX6_reads 48 = .ok (.istore_n 3, 1) := by decide +kernel
theorem dX6_reads_49 : decode cX6_reads 49 = .ok (.iload_n 1, 1) := by decide +kernel
theorem dX6_reads_50 : decode cX6_reads 50 = .ok (.ifCond .le 14, 3) := by decide +kernel
theorem dX6_reads_53 : decode cX6_reads 53 = .ok (.aload_n 0, 1) := by decide +kernel
theorem dX6_reads_54 : decode cX6_reads 54 = .ok (.getfield 28, 3) := by decide +kernel
theorem dX6_reads_57 : decode cX6_reads 57 = .ok (.iload_n 1, 1) := by decide +kernel
theorem dX6_reads_58 : decode cX6_reads 58 = .ok (.iconst 1, 1) := by decide +kernel
theorem dX6_reads_59 : decode cX6_reads 59 = .ok (.isub, 1) := by decide +kernel
theorem dX6_reads_60 : decode cX6_reads 60 = .ok (.iaload, 1) := by decide +kernel
theorem dX6_reads_61 : decode cX6_reads 61 = .ok (.goto 4, 3) := by decide +kernel
theorem dX6_reads_64 : decode cX6_reads 64 = .ok (.iconst (-1), 1) := by decide +kernel
theorem dX6_reads_65 : decode cX6_reads 65 = .ok (.istore 4, 2) := by decide +kernel
theorem dX6_reads_67 : decode cX6_reads 67 = .ok (.iload_n 3, 1) := by decide +kernel
theorem dX6_reads_68 : decode cX6_reads 68 = .ok (.invokestatic 132, 3) := by decide +kernel
theorem dX6_reads_71 : decode cX6_reads 71 = .ok (.ifCond .eq 161, 3) := by decide +kernel
theorem dX6_reads_74 : decode cX6_reads 74 = .ok (.iload_n 1, 1) := by decide +kernel
theorem dX6_reads_75 : decode cX6_reads 75 = .ok (.bipush 8, 2) := by decide +kernel
theorem dX6_reads_77 : decode cX6_reads 77 = .ok (.if_icmp .ne 5, 3) := by decide +kernel
theorem dX6_reads_80 : decode cX6_reads 80 = .ok (.iload_n 2, 1) := by decide +kernel
theorem dX6_reads_81 : decode cX6_reads 81 = .ok (.ireturn, 1) := by decide +kernel
theorem dX6_reads_82 : decode cX6_reads 82 = .ok (.aload_n 0, 1) := by decide +kernel
theorem dX6_reads_83 : decode cX6_reads 83 = .ok (.dup, 1) := by decide +kernel
theorem dX6_reads_84 : decode cX6_reads 84 = .ok (.getfield 113, 3) := by decide +kernel
theorem dX6_reads_87 : decode cX6_reads 87 = .ok (.iconst 1, 1) := by decide +kernel
theorem dX6_reads_88 : decode cX6_reads 88 = .ok (.iadd, 1) := by decide +kernel
theorem dX6_reads_89 : decode cX6_reads 89 = .ok (.putfield 113, 3) := by decide +kernel
theorem dX6_reads_92 : decode cX6_reads 92 = .ok (.iconst 1, 1) := by decide +kernel
theorem dX6_reads_93 : decode cX6_reads 93 = .ok (.istore 5, 2) := by decide +kernel
theorem dX6_reads_95 : decode cX6_reads 95 = .ok (.iload_n 3, 1) := by decide +kernel
theorem dX6_reads_96 : decode cX6_reads 96 = .ok (.i2l, 1) := by decide +kernel
theorem dX6_reads_97 : decode cX6_reads 97 = .ok (.ldc2_w 119, 3) := by decide +kernel
theorem dX6_reads_100 : decode cX6_reads 100 = .ok (.ldc2_w 121, 3) := by decide +kernel
theorem dX6_reads_103 : decode cX6_reads 103 = .ok (.invokestatic 62, 3) := by decide +kernel
theorem dX6_reads_106 : decode cX6_reads 106 = .ok (.ifCond .eq 31, 3) := by decide +kernel
theorem dX6_reads_109 : decode cX6_reads 109 = .ok (.aload_n 0, 1) := by decide +kernel
theorem dX6_reads_110 : decode cX6_reads 110 = .ok (.bipush 123, 2) := by decide +kernel
theorem dX6_reads_112 : decode cX6_reads 112 = .ok (.bipush 123, 2) := by decide +kernel
theorem dX6_reads_114 : decode cX6_reads 114 = .ok (.invokevirtual 135, 3) := by decide +kernel
theorem dX6_reads_117 : decode cX6_reads 117 = .ok (.istore 5, 2) := by decide +kernel
theorem dX6_reads_119 : decode cX6_reads 119 = .ok (.aload_n 0, 1) := by decide +kernel
theorem dX6_reads_120 : decode cX6_reads 120 = .ok (.dup, 1) := by decide +kernel
theorem dX6_reads_121 : decode cX6_reads 121 = .ok (.getfield 129, 3) := by decide +kernel
theorem dX6_reads_124 : decode cX6_reads 124 = .ok (.iconst 1, 1) := by decide +kernel
theorem dX6_reads_125 : decode cX6_reads 125 = .ok (.iload_n 3, 1) := by decide +kernel
theorem dX6_reads_126 : decode cX6_reads 126 = .ok (.bipush 48, 2) := by decide +kernel
theorem dX6_reads_128 : decode cX6_reads 128 = .ok (.isub, 1) := by decide +kernel
theorem dX6_reads_129 : decode cX6_reads 129 = .ok (.ishl, 1) := by decide +kernel
theorem dX6_reads_130 : decode cX6_reads 130 = .ok (.ior, 1) := by decide +kernel
theorem dX6_reads_131 : decode cX6_reads 131 = .ok (.putfield 129, 3) := by decide +kernel
theorem dX6_reads_134 : decode cX6_reads 134 = .ok (.goto 38, 3) := by decide +kernel
theorem dX6_reads_137 : decode cX6_reads 137 = .ok (.iload_n 3, 1) := by decide +kernel
theorem dX6_reads_138 : decode cX6_reads 138 = .ok (.bipush 120, 2) := by decide +kernel
theorem dX6_reads_140 : decode cX6_reads 140 = .ok (.if_icmp .ne 32, 3) := by decide +kernel
theorem dX6_reads_143 : decode cX6_reads 143 = .ok (.aload_n 0, 1) := by decide +kernel
theorem dX6_reads_144 : decode cX6_reads 144 = .ok (.bipush 48, 2) := by decide +kernel
theorem dX6_reads_146 : decode cX6_reads 146 = .ok (.bipush 57, 2) := by decide +kernel
theorem dX6_reads_148 : decode cX6_reads 148 = .ok (.invokevirtual 135, 3) := by decide +kernel
theorem dX6_reads_151 : decode cX6_reads 151 = .ok (.ifCond .eq 18, 3) := by decide +kernel
theorem dX6_reads_154 : decode cX6_reads 154 = .ok (.aload_n 0, 1) := by decide +kernel
theorem dX6_reads_155 : decode cX6_reads 155 = .ok (.bipush 58, 2) := by decide +kernel
theorem dX6_reads_157 : decode cX6_reads 157 = .ok (.bipush 58, 2) := by decide +kernel
theorem dX6_reads_159 : decode cX6_reads 159 = .ok (.invokevirtual 135, 3) := by decide +kernel
theorem dX6_reads_162 : decode cX6_reads 162 = .ok (.ifCond .eq 7, 3) := by decide +kernel
theorem dX6_reads_165 : decode cX6_reads 165 = .ok (.iconst 1, 1) := by decide +kernel
theorem dX6_reads_166 : decode cX6_reads 166 = .ok (.goto 4, 3) := by decide +kernel
theorem dX6_reads_169 : decode cX6_reads 169 = .ok (.iconst 0, 1) := by decide +kernel
theorem dX6_reads_170 : decode cX6_reads 170 = .ok (.istore 5, 2) := by decide +kernel
theorem dX6_reads_172 : decode cX6_reads 172 = .ok (.iload 5, 2) := by decide +kernel
theorem dX6_reads_174 : decode cX6_reads 174 = .ok (.ifCond .ne 8, 3) := by decide +kernel
theorem dX6_reads_177 : decode cX6_reads 177 = .ok (.aload_n 0, 1) := by decide +kernel
theorem dX6_reads_178 : decode cX6_reads 178 = .ok (.getfield 113, 3) := by decide +kernel
theorem dX6_reads_181 : decode cX6_reads 181 = .ok (.ireturn, 1) := by decide +kernel
theorem dX6_reads_182 : decode cX6_reads 182 = .ok (.aload_n 0, 1) := by decide +kernel
theorem dX6_reads_183 : decode cX6_reads 183 = .ok (.getfield 28, 3) := by decide +kernel
theorem dX6_reads_186 : decode cX6_reads 186 = .ok (.iload_n 1, 1) := by decide +kernel
theorem dX6_reads_187 : decode cX6_reads 187 = .ok (.iload_n 2, 1) := by decide +kernel
theorem dX6_reads_188 : decode cX6_reads 188 = .ok (.iastore, 1) := by decide +kernel
theorem dX6_reads_189 : decode cX6_reads 189 = .ok (.aload_n 0, 1) := by decide +kernel
theorem dX6_reads_190 : decode cX6_reads 190 = .ok (.getfield 25, 3) := by decide +kernel
theorem dX6_reads_193 : decode cX6_reads 193 = .ok (.iload_n 2, 1) := by decide +kernel
theorem dX6_reads_194 : decode cX6_reads 194 = .ok (.iconst (-1), 1) := by decide +kernel
theorem dX6_reads_195 : decode cX6_reads 195 = .ok (.iastore, 1) := by decide +kernel
theorem dX6_reads_196 : decode cX6_reads 196 = .ok (.iinc 1 1, 3) := by decide +kernel
theorem dX6_reads_199 : decode cX6_reads 199 = .ok (.aload_n 0, 1) := by decide +kernel
theorem dX6_reads_200 : decode cX6_reads 200 = .ok (.iload_n 1, 1) := by decide +kernel
theorem dX6_reads_201 : decode cX6_reads 201 = .ok (.aload_n 0, 1) := by decide +kernel
theorem dX6_reads_202 : decode cX6_reads 202 = .ok (.getfield 126, 3) := by decide +kernel
theorem dX6_reads_205 : decode cX6_reads 205 = .ok (.if_icmp .le 7, 3) := by decide +kernel
theorem dX6_reads_208 : decode cX6_reads 208 = .ok (.iload_n 1, 1) := by decide +kernel
theorem dX6_reads_209 : decode cX6_reads 209 = .ok (.goto 7, 3) := by decide +kernel
theorem dX6_reads_212 : decode cX6_reads 212 = .ok (.aload_n 0, 1) := by decide +kernel
theorem dX6_reads_213 : decode cX6_reads 213 = .ok (.getfield 126, 3) := by decide +kernel
theorem dX6_reads_216 : decode cX6_reads 216 = .ok (.putfield 126, 3) := by decide +kernel
theorem dX6_reads_219 : decode cX6_reads 219 = .ok (.aload_n 0, 1) := by decide +kernel
theorem dX6_reads_220 : decode cX6_reads 220 = .ok (.dup, 1) := by decide +kernel
theorem dX6_reads_221 : decode cX6_reads 221 = .ok (.getfield 123, 3) := by decide +kernel
theorem dX6_reads_224 : decode cX6_reads 224 = .ok (.iconst 1, 1) := by decide +kernel
theorem dX6_reads_225 : decode cX6_reads 225 = .ok (.iadd, 1) := by decide +kernel
theorem dX6_reads_226 : decode cX6_reads 226 = .ok (.putfield 123, 3) := by decide +kernel
theorem dX6_reads_229 : decode cX6_reads 229 = .ok (.goto 247, 3) := by decide +kernel
theorem dX6_reads_232 : decode cX6_reads 232 = .ok (.iload_n 3, 1) := by decide +kernel
theorem dX6_reads_233 : decode cX6_reads 233 = .ok (.bipush 33, 2) := by decide +kernel
theorem dX6_reads_235 : decode cX6_reads 235 = .ok (.if_icmp .ne 39, 3) := by decide +kernel
theorem dX6_reads_238 : decode cX6_reads 238 = .ok (.aload_n 0, 1) := by decide +kernel
theorem dX6_reads_239 : decode cX6_reads 239 = .ok (.dup, 1) := by decide +kernel
theorem dX6_reads_240 : decode cX6_reads 240 = .ok (.getfield 113, 3) := by decide +kernel
theorem dX6_reads_243 : decode cX6_reads 243 = .ok (.iconst 1, 1) := by decide +kernel
theorem dX6_reads_244 : decode cX6_reads 244 = .ok (.iadd, 1) := by decide +kernel
theorem dX6_reads_245 : decode cX6_reads 245 = .ok (.putfield 113, 3) := by decide +kernel
theorem dX6_reads_248 : decode cX6_reads 248 = .ok (.aload_n 0, 1) := by decide +kernel
theorem dX6_reads_249 : decode cX6_reads 249 = .ok (.dup, 1) := by decide +kernel
theorem dX6_reads_250 : decode cX6_reads 250 = .ok (.getfield 123, 3) := by decide +kernel
theorem dX6_reads_253 : decode cX6_reads 253 = .ok (.iconst 1, 1) := by decide +kernel
theorem dX6_reads_254 : decode cX6_reads 254 = .ok (.iadd, 1) := by decide +kernel
theorem dX6_reads_255 : decode cX6_reads 255 = .ok (.putfield 123, 3) := by decide +kernel
theorem dX6_reads_258 : decode cX6_reads 258 = .ok (.aload_n 0, 1) := by decide +kernel
theorem dX6_reads_259 : decode cX6_reads 259 = .ok (.bipush 48, 2) := by decide +kernel
theorem dX6_reads_261 : decode cX6_reads 261 = .ok (.bipush 57, 2) := by decide +kernel
theorem dX6_reads_263 : decode cX6_reads 263 = .ok (.invokevirtual 135, 3) := by decide +kernel
theorem dX6_reads_266 : decode cX6_reads 266 = .ok (.ifCond .ne 210, 3) := by decide +kernel
theorem dX6_reads_269 : decode cX6_reads 269 = .ok (.aload_n 0, 1) := by decide +kernel
theorem dX6_reads_270 : decode cX6_reads 270 = .ok (.getfield 113, 3) := by decide +kernel
theorem dX6_reads_273 : decode cX6_reads 273 = .ok (.ireturn, 1) := by decide +kernel
theorem dX6_reads_274 : decode cX6_reads 274 = .ok (.iload_n 3, 1) := by decide +kernel
theorem dX6_reads_275 : decode cX6_reads 275 = .ok (.bipush 108, 2) := by decide +kernel
theorem dX6_reads_277 : decode cX6_reads 277 = .ok (.if_icmp .eq 27, 3) := by decide +kernel
theorem dX6_reads_280 : decode cX6_reads 280 = .ok (.iload_n 3, 1) := by decide +kernel
theorem dX6_reads_281 : decode cX6_reads 281 = .ok (.bipush 107, 2) := by decide +kernel
theorem dX6_reads_283 : decode cX6_reads 283 = .ok (.if_icmp .eq 21, 3) := by decide +kernel
theorem dX6_reads_286 : decode cX6_reads 286 = .ok (.iload_n 3, 1) := by decide +kernel
theorem dX6_reads_287 : decode cX6_reads 287 = .ok (.bipush 119, 2) := by decide +kernel
theorem dX6_reads_289 : decode cX6_reads 289 = .ok (.if_icmp .eq 15, 3) := by decide +kernel
theorem dX6_reads_292 : decode cX6_reads 292 = .ok (.iload_n 3, 1) := by decide +kernel
theorem dX6_reads_293 : decode cX6_reads 293 = .ok (.bipush 98, 2) := by decide +kernel
theorem dX6_reads_295 : decode cX6_reads 295 = .ok (.if_icmp .eq 9, 3) := by decide +kernel
theorem dX6_reads_298 : decode cX6_reads 298 = .ok (.iload_n 3, 1) := by decide +kernel
theorem dX6_reads_299 : decode cX6_reads 299 = .ok (.bipush 43, 2) := by decide +kernel
theorem dX6_reads_301 : decode cX6_reads 301 = .ok (.if_icmp .ne 26, 3) := by decide +kernel
theorem dX6_reads_304 : decode cX6_reads 304 = .ok (.aload_n 0, 1) := by decide +kernel
theorem dX6_reads_305 : decode cX6_reads 305 = .ok (.dup, 1) := by decide +kernel
theorem dX6_reads_306 : decode cX6_reads 306 = .ok (.getfield 113, 3) := by decide +kernel
theorem dX6_reads_309 : decode cX6_reads 309 = .ok (.iconst 1, 1) := by decide +kernel
theorem dX6_reads_310 : decode cX6_reads 310 = .ok (.iadd, 1) := by decide +kernel
theorem dX6_reads_311 : decode cX6_reads 311 = .ok (.putfield 113, 3) := by decide +kernel
theorem dX6_reads_314 : decode cX6_reads 314 = .ok (.aload_n 0, 1) := by decide +kernel
theorem dX6_reads_315 : decode cX6_reads 315 = .ok (.dup, 1) := by decide +kernel
theorem dX6_reads_316 : decode cX6_reads 316 = .ok (.getfield 123, 3) := by decide +kernel
theorem dX6_reads_319 : decode cX6_reads 319 = .ok (.iconst 1, 1) := by decide +kernel
theorem dX6_reads_320 : decode cX6_reads 320 = .ok (.iadd, 1) := by decide +kernel
theorem dX6_reads_321 : decode cX6_reads 321 = .ok (.putfield 123, 3) := by decide +kernel
theorem dX6_reads_324 : decode cX6_reads 324 = .ok (.goto 152, 3) := by decide +kernel
theorem dX6_reads_327 : decode cX6_reads 327 = .ok (.iload 4, 2) := by decide +kernel
theorem dX6_reads_329 : decode cX6_reads 329 = .ok (.iconst (-1), 1) := by decide +kernel
theorem dX6_reads_330 : decode cX6_reads 330 = .ok (.if_icmp .eq 65, 3) := by decide +kernel
theorem dX6_reads_333 : decode cX6_reads 333 = .ok (.iload_n 3, 1) := by decide +kernel
theorem dX6_reads_334 : decode cX6_reads 334 = .ok (.bipush 47, 2) := by decide +kernel
theorem dX6_reads_336 : decode cX6_reads 336 = .ok (.if_icmp .ne 59, 3) := by decide +kernel
theorem dX6_reads_339 : decode cX6_reads 339 = .ok (.aload_n 0, 1) := by decide +kernel
theorem dX6_reads_340 : decode cX6_reads 340 = .ok (.getfield 19, 3) := by decide +kernel
theorem dX6_reads_343 : decode cX6_reads 343 = .ok (.iload 4, 2) := by decide +kernel
theorem dX6_reads_345 : decode cX6_reads 345 = .ok (.iaload, 1) := by decide +kernel
theorem dX6_reads_346 : decode cX6_reads 346 = .ok (.bipush 40, 2) := by decide +kernel
theorem dX6_reads_348 : decode cX6_reads 348 = .ok (.if_icmp .eq 15, 3) := by decide +kernel
theorem dX6_reads_351 : decode cX6_reads 351 = .ok (.aload_n 0, 1) := by decide +kernel
theorem dX6_reads_352 : decode cX6_reads 352 = .ok (.getfield 19, 3) := by decide +kernel
theorem dX6_reads_355 : decode cX6_reads 355 = .ok (.iload 4, 2) := by decide +kernel
theorem dX6_reads_357 : decode cX6_reads 357 = .ok (.iaload, 1) := by decide +kernel
theorem dX6_reads_358 : decode cX6_reads 358 = .ok (.bipush 91, 2) := by decide +kernel
theorem dX6_reads_360 : decode cX6_reads 360 = .ok (.if_icmp .ne 35, 3) := by decide +kernel
theorem dX6_reads_363 : decode cX6_reads 363 = .ok (.aload_n 0, 1) := by decide +kernel
theorem dX6_reads_364 : decode cX6_reads 364 = .ok (.getfield 25, 3) := by decide +kernel
theorem dX6_reads_367 : decode cX6_reads 367 = .ok (.iload 4, 2) := by decide +kernel
theorem dX6_reads_369 : decode cX6_reads 369 = .ok (.iaload, 1) := by decide +kernel
theorem dX6_reads_370 : decode cX6_reads 370 = .ok (.iconst (-1), 1) := by decide +kernel
theorem dX6_reads_371 : decode cX6_reads 371 = .ok (.if_icmp .ne 24, 3) := by decide +kernel
theorem dX6_reads_374 : decode cX6_reads 374 = .ok (.aload_n 0, 1) := by decide +kernel
theorem dX6_reads_375 : decode cX6_reads 375 = .ok (.getfield 25, 3) := by decide +kernel
theorem dX6_reads_378 : decode cX6_reads 378 = .ok (.iload 4, 2) := by decide +kernel
theorem dX6_reads_380 : decode cX6_reads 380 = .ok (.iload_n 2, 1) := by decide +kernel
theorem dX6_reads_381 : decode cX6_reads 381 = .ok (.iastore, 1) := by decide +kernel
theorem dX6_reads_382 : decode cX6_reads 382 = .ok (.aload_n 0, 1) := by decide +kernel
theorem dX6_reads_383 : decode cX6_reads 383 = .ok (.dup, 1) := by decide +kernel
theorem dX6_reads_384 : decode cX6_reads 384 = .ok (.getfield 113, 3) := by decide +kernel
theorem dX6_reads_387 : decode cX6_reads 387 = .ok (.iconst 1, 1) := by decide +kernel
theorem dX6_reads_388 : decode cX6_reads 388 = .ok (.iadd, 1) := by decide +kernel
theorem dX6_reads_389 : decode cX6_reads 389 = .ok (.putfield 113, 3) := by decide +kernel
theorem dX6_reads_392 : decode cX6_reads 392 = .ok (.goto 84, 3) := by decide +kernel
theorem dX6_reads_395 : decode cX6_reads 395 = .ok (.iload 4, 2) := by decide +kernel
theorem dX6_reads_397 : decode cX6_reads 397 = .ok (.iconst (-1), 1) := by decide +kernel
theorem dX6_reads_398 : decode cX6_reads 398 = .ok (.if_icmp .eq 76, 3) := by decide +kernel
theorem dX6_reads_401 : decode cX6_reads 401 = .ok (.iload_n 3, 1) := by decide +kernel
theorem dX6_reads_402 : decode cX6_reads 402 = .ok (.aload_n 0, 1) := by decide +kernel
theorem dX6_reads_403 : decode cX6_reads 403 = .ok (.getfield 19, 3) := by decide +kernel
theorem dX6_reads_406 : decode cX6_reads 406 = .ok (.iload 4, 2) := by decide +kernel
theorem dX6_reads_408 : decode cX6_reads 408 = .ok (.iaload, 1) := by decide +kernel
theorem dX6_reads_409 : decode cX6_reads 409 = .ok (.invokestatic 139, 3) := by decide +kernel
theorem dX6_reads_412 : decode cX6_reads 412 = .ok (.if_icmp .ne 62, 3) := by decide +kernel
theorem dX6_reads_415 : decode cX6_reads 415 = .ok (.aload_n 0, 1) := by decide +kernel
theorem dX6_reads_416 : decode cX6_reads 416 = .ok (.getfield 19, 3) := by decide +kernel
theorem dX6_reads_419 : decode cX6_reads 419 = .ok (.iload 4, 2) := by decide +kernel
theorem dX6_reads_421 : decode cX6_reads 421 = .ok (.iaload, 1) := by decide +kernel
theorem dX6_reads_422 : decode cX6_reads 422 = .ok (.bipush 40, 2) := by decide +kernel
theorem dX6_reads_424 : decode cX6_reads 424 = .ok (.if_icmp .eq 15, 3) := by decide +kernel
theorem dX6_reads_427 : decode cX6_reads 427 = .ok (.aload_n 0, 1) := by decide +kernel
theorem dX6_reads_428 : decode cX6_reads 428 = .ok (.getfield 19, 3) := by decide +kernel
theorem dX6_reads_431 : decode cX6_reads 431 = .ok (.iload 4, 2) := by decide +kernel
theorem dX6_reads_433 : decode cX6_reads 433 = .ok (.iaload, 1) := by decide +kernel
theorem dX6_reads_434 : decode cX6_reads 434 = .ok (.bipush 91, 2) := by decide +kernel
theorem dX6_reads_436 : decode cX6_reads 436 = .ok (.if_icmp .ne 14, 3) := by decide +kernel
theorem dX6_reads_439 : decode cX6_reads 439 = .ok (.aload_n 0, 1) := by decide +kernel
theorem dX6_reads_440 : decode cX6_reads 440 = .ok (.getfield 25, 3) := by decide +kernel
theorem dX6_reads_443 : decode cX6_reads 443 = .ok (.iload 4, 2) := by decide +kernel
theorem dX6_reads_445 : decode cX6_reads 445 = .ok (.iaload, 1) := by decide +kernel
theorem dX6_reads_446 : decode cX6_reads 446 = .ok (.iconst (-1), 1) := by decide +kernel
theorem dX6_reads_447 : decode cX6_reads 447 = .ok (.if_icmp .eq 27, 3) := by decide +kernel
theorem dX6_reads_450 : decode cX6_reads 450 = .ok (.aload_n 0, 1) := by decide +kernel
theorem dX6_reads_451 : decode cX6_reads 451 = .ok (.getfield 22, 3) := by decide +kernel
theorem dX6_reads_454 : decode cX6_reads 454 = .ok (.iload 4, 2) := by decide +kernel
theorem dX6_reads_456 : decode cX6_reads 456 = .ok (.iload_n 2, 1) := by decide +kernel
theorem dX6_reads_457 : decode cX6_reads 457 = .ok (.iastore, 1) := by decide +kernel
theorem dX6_reads_458 : decode cX6_reads 458 = .ok (.iinc 1 (-1), 3) := by decide +kernel
theorem dX6_reads_461 : decode cX6_reads 461 = .ok (.aload_n 0, 1) := by decide +kernel
theorem dX6_reads_462 : decode cX6_reads 462 = .ok (.dup, 1) := by decide +kernel
theorem dX6_reads_463 : decode cX6_reads 463 = .ok (.getfield 113, 3) := by decide +kernel
theorem dX6_reads_466 : decode cX6_reads 466 = .ok (.iconst 1, 1) := by decide +kernel
theorem dX6_reads_467 : decode cX6_reads 467 = .ok (.iadd, 1) := by decide +kernel
theorem dX6_reads_468 : decode cX6_reads 468 = .ok (.putfield 113, 3) := by decide +kernel
theorem dX6_reads_471 : decode cX6_reads 471 = .ok (.goto 5, 3) := by decide +kernel
theorem dX6_reads_474 : decode cX6_reads 474 = .ok (.iload_n 2, 1) := by decide +kernel
theorem dX6_reads_475 : decode cX6_reads 475 = .ok (.ireturn, 1) := by decide +kernel
theorem dX6_reads_476 : decode cX6_reads 476 = .ok (.aload_n 0, 1) := by decide +kernel
theorem dX6_reads_477 : decode cX6_reads 477 = .ok (.invokevirtual 116, 3) := by decide +kernel
theorem dX6_reads_480 : decode cX6_reads 480 = .ok (.goto (-454), 3) := by decide +kernel
theorem dX6_reads_483 : decode cX6_reads 483 = .ok (.iload_n 1, 1) := by decide +kernel
theorem dX6_reads_484 : decode cX6_reads 484 = .ok (.ifCond .le 10, 3) := by decide +kernel
theorem dX6_reads_487 : decode cX6_reads 487 = .ok (.aload_n 0, 1) := by decide +kernel
theorem dX6_reads_488 : decode cX6_reads 488 = .ok (.getfield 107, 3) := by decide +kernel
theorem dX6_reads_491 : decode cX6_reads 491 = .ok (.goto 4, 3) := by decide +kernel
theorem dX6_reads_494 : decode cX6_reads 494 = .ok (.iconst (-1), 1) := by decide +kernel
theorem dX6_reads_495 : decode cX6_reads 495 = .ok (.ireturn, 1) := by decide +kernel
theorem dX6_notes_0 : decode cX6_notes 0 = .ok (.aload_n 0, 1) := by decide +kernel
theorem dX6_notes_1 : decode cX6_notes 1 = .ok (.getfield 142, 3) := by decide +kernel
theorem dX6_notes_4 : decode cX6_notes 4 = .ok (.sipush 150, 3) := by decide +kernel
theorem dX6_notes_7 : decode cX6_notes 7 = .ok (.if_icmp .ge 23, 3) := by decide +kernel
theorem dX6_notes_10 : decode cX6_notes 10 = .ok (.aload_n 0, 1) := by decide +kernel
theorem dX6_notes_11 : decode cX6_notes 11 = .ok (.getfield 31, 3) := by decide +kernel
theorem dX6_notes_14 : decode cX6_notes 14 = .ok (.aload_n 0, 1) := by decide +kernel
theorem dX6_notes_15 : decode cX6_notes 15 = .ok (.getfield 142, 3) := by decide +kernel
theorem dX6_notes_18 : decode cX6_notes 18 = .ok (.iload_n 1, 1) := by decide +kernel
theorem dX6_notes_19 : decode cX6_notes 19 = .ok (.iastore, 1) := by decide +kernel
theorem dX6_notes_20 : decode cX6_notes 20 = .ok (.aload_n 0, 1) := by decide +kernel
theorem dX6_notes_21 : decode cX6_notes 21 = .ok (.dup, 1) := by decide +kernel
theorem dX6_notes_22 : decode cX6_notes 22 = .ok (.getfield 142, 3) := by decide +kernel
theorem dX6_notes_25 : decode cX6_notes 25 = .ok (.iconst 1, 1) := by decide +kernel
theorem dX6_notes_26 : decode cX6_notes 26 = .ok (.iadd, 1) := by decide +kernel
theorem dX6_notes_27 : decode cX6_notes 27 = .ok (.putfield 142, 3) := by decide +kernel
theorem dX6_notes_30 : decode cX6_notes 30 = .ok (.return_, 1) := by decide +kernel
theorem dX6_befalls_0 : decode cX6_befalls 0 = .ok (.aload_n 0, 1) := by decide +kernel
theorem dX6_befalls_1 : decode cX6_befalls 1 = .ok (.iload_n 1, 1) := by decide +kernel
theorem dX6_befalls_2 : decode cX6_befalls 2 = .ok (.putfield 145, 3) := by decide +kernel
theorem dX6_befalls_5 : decode cX6_befalls 5 = .ok (.aload_n 0, 1) := by decide +kernel
theorem dX6_befalls_6 : decode cX6_befalls 6 = .ok (.aload_n 0, 1) := by decide +kernel
theorem dX6_befalls_7 : decode cX6_befalls 7 = .ok (.getfield 148, 3) := by decide +kernel
theorem dX6_befalls_10 : decode cX6_befalls 10 = .ok (.putfield 151, 3) := by decide +kernel
theorem dX6_befalls_13 : decode cX6_befalls 13 = .ok (.aload_n 0, 1) := by decide +kernel
theorem dX6_befalls_14 : decode cX6_befalls 14 = .ok (.iload_n 2, 1) := by decide +kernel
theorem dX6_befalls_15 : decode cX6_befalls 15 = .ok (.putfield 154, 3) := by decide +kernel
theorem dX6_befalls_18 : decode cX6_befalls 18 = .ok (.aload_n 0, 1) := by decide +kernel
theorem dX6_befalls_19 : decode cX6_befalls 19 = .ok (.iconst 0, 1) := by decide +kernel
theorem dX6_befalls_20 : decode cX6_befalls 20 = .ok (.putfield 157, 3) := by decide +kernel
theorem dX6_befalls_23 : decode cX6_befalls 23 = .ok (.aload_n 0, 1) := by decide +kernel
theorem dX6_befalls_24 : decode cX6_befalls 24 = .ok (.iload_n 1, 1) := by decide +kernel
theorem dX6_befalls_25 : decode cX6_befalls 25 = .ok (.putfield 160, 3) := by decide +kernel
theorem dX6_befalls_28 : decode cX6_befalls 28 = .ok (.aload_n 0, 1) := by decide +kernel
theorem dX6_befalls_29 : decode cX6_befalls 29 = .ok (.dup, 1) := by decide +kernel
theorem dX6_befalls_30 : decode cX6_befalls 30 = .ok (.getfield 163, 3) := by decide +kernel
theorem dX6_befalls_33 : decode cX6_befalls 33 = .ok (.iconst 1, 1) := by decide +kernel
theorem dX6_befalls_34 : decode cX6_befalls 34 = .ok (.iadd, 1) := by decide +kernel
theorem dX6_befalls_35 : decode cX6_befalls 35 = .ok (.putfield 163, 3) := by decide +kernel
theorem dX6_befalls_38 : decode cX6_befalls 38 = .ok (.return_, 1) := by decide +kernel
theorem dX6_pushes_0 : decode cX6_pushes 0 = .ok (.aload_n 0, 1) := by decide +kernel
theorem dX6_pushes_1 : decode cX6_pushes 1 = .ok (.getfield 34, 3) := by decide +kernel
theorem dX6_pushes_4 : decode cX6_pushes 4 = .ok (.aload_n 0, 1) := by decide +kernel
theorem dX6_pushes_5 : decode cX6_pushes 5 = .ok (.getfield 166, 3) := by decide +kernel
theorem dX6_pushes_8 : decode cX6_pushes 8 = .ok (.iload_n 1, 1) := by decide +kernel
theorem dX6_pushes_9 : decode cX6_pushes 9 = .ok (.iastore, 1) := by decide +kernel
theorem dX6_pushes_10 : decode cX6_pushes 10 = .ok (.aload_n 0, 1) := by decide +kernel
theorem dX6_pushes_11 : decode cX6_pushes 11 = .ok (.getfield 37, 3) := by decide +kernel
theorem dX6_pushes_14 : decode cX6_pushes 14 = .ok (.aload_n 0, 1) := by decide +kernel
theorem dX6_pushes_15 : decode cX6_pushes 15 = .ok (.getfield 166, 3) := by decide +kernel
theorem dX6_pushes_18 : decode cX6_pushes 18 = .ok (.aload_n 0, 1) := by decide +kernel
theorem dX6_pushes_19 : decode cX6_pushes 19 = .ok (.getfield 148, 3) := by decide +kernel
theorem dX6_pushes_22 : decode cX6_pushes 22 = .ok (.iastore, 1) := by decide +kernel
theorem dX6_pushes_23 : decode cX6_pushes 23 = .ok (.aload_n 0, 1) := by decide +kernel
theorem dX6_pushes_24 : decode cX6_pushes 24 = .ok (.getfield 40, 3) := by decide +kernel
theorem dX6_pushes_27 : decode cX6_pushes 27 = .ok (.aload_n 0, 1) := by decide +kernel
theorem dX6_pushes_28 : decode cX6_pushes 28 = .ok (.getfield 166, 3) := by decide +kernel
theorem dX6_pushes_31 : decode cX6_pushes 31 = .ok (.iload_n 3, 1) := by decide +kernel
theorem dX6_pushes_32 : decode cX6_pushes 32 = .ok (.iastore, 1) := by decide +kernel
theorem dX6_pushes_33 : decode cX6_pushes 33 = .ok (.aload_n 0, 1) := by decide +kernel
theorem dX6_pushes_34 : decode cX6_pushes 34 = .ok (.getfield 43, 3) := by decide +kernel
theorem dX6_pushes_37 : decode cX6_pushes 37 = .ok (.aload_n 0, 1) := by decide +kernel
theorem dX6_pushes_38 : decode cX6_pushes 38 = .ok (.getfield 166, 3) := by decide +kernel
theorem dX6_pushes_41 : decode cX6_pushes 41 = .ok (.iconst 0, 1) := by decide +kernel
theorem dX6_pushes_42 : decode cX6_pushes 42 = .ok (.bastore, 1) := by decide +kernel
theorem dX6_pushes_43 : decode cX6_pushes 43 = .ok (.aload_n 0, 1) := by decide +kernel
theorem dX6_pushes_44 : decode cX6_pushes 44 = .ok (.dup, 1) := by decide +kernel
theorem dX6_pushes_45 : decode cX6_pushes 45 = .ok (.getfield 166, 3) := by decide +kernel
theorem dX6_pushes_48 : decode cX6_pushes 48 = .ok (.iconst 1, 1) := by decide +kernel
theorem dX6_pushes_49 : decode cX6_pushes 49 = .ok (.iadd, 1) := by decide +kernel
theorem dX6_pushes_50 : decode cX6_pushes 50 = .ok (.putfield 166, 3) := by decide +kernel
theorem dX6_pushes_53 : decode cX6_pushes 53 = .ok (.aload_n 0, 1) := by decide +kernel
theorem dX6_pushes_54 : decode cX6_pushes 54 = .ok (.iload_n 2, 1) := by decide +kernel
theorem dX6_pushes_55 : decode cX6_pushes 55 = .ok (.putfield 148, 3) := by decide +kernel
theorem dX6_pushes_58 : decode cX6_pushes 58 = .ok (.return_, 1) := by decide +kernel
theorem dX6_shuts_0 : decode cX6_shuts 0 = .ok (.aload_n 0, 1) := by decide +kernel
theorem dX6_shuts_1 : decode cX6_shuts 1 = .ok (.dup, 1) := by decide +kernel
theorem dX6_shuts_2 : decode cX6_shuts 2 = .ok (.getfield 169, 3) := by decide +kernel
theorem dX6_shuts_5 : decode cX6_shuts 5 = .ok (.iconst 1, 1) := by decide +kernel
theorem dX6_shuts_6 : decode cX6_shuts 6 = .ok (.isub, 1) := by decide +kernel
theorem dX6_shuts_7 : decode cX6_shuts 7 = .ok (.putfield 169, 3) := by decide +kernel
theorem dX6_shuts_10 : decode cX6_shuts 10 = .ok (.aload_n 0, 1) := by decide +kernel
theorem dX6_shuts_11 : decode cX6_shuts 11 = .ok (.bipush 20, 2) := by decide +kernel
theorem dX6_shuts_13 : decode cX6_shuts 13 = .ok (.iload_n 1, 1) := by decide +kernel
theorem dX6_shuts_14 : decode cX6_shuts 14 = .ok (.iadd, 1) := by decide +kernel
theorem dX6_shuts_15 : decode cX6_shuts 15 = .ok (.invokevirtual 172, 3) := by decide +kernel
theorem dX6_shuts_18 : decode cX6_shuts 18 = .ok (.aload_n 0, 1) := by decide +kernel
theorem dX6_shuts_19 : decode cX6_shuts 19 = .ok (.iload_n 1, 1) := by decide +kernel
theorem dX6_shuts_20 : decode cX6_shuts 20 = .ok (.invokevirtual 176, 3) := by decide +kernel
theorem dX6_shuts_23 : decode cX6_shuts 23 = .ok (.ifCond .eq 26, 3) := by decide +kernel
theorem dX6_shuts_26 : decode cX6_shuts 26 = .ok (.aload_n 0, 1) := by decide +kernel
theorem dX6_shuts_27 : decode cX6_shuts 27 = .ok (.iload_n 1, 1) := by decide +kernel
theorem dX6_shuts_28 : decode cX6_shuts 28 = .ok (.invokevirtual 93, 3) := by decide +kernel
theorem dX6_shuts_31 : decode cX6_shuts 31 = .ok (.iconst 1, 1) := by decide +kernel
theorem dX6_shuts_32 : decode cX6_shuts 32 = .ok (.isub, 1) := by decide +kernel
theorem dX6_shuts_33 : decode cX6_shuts 33 = .ok (.aload_n 0, 1) := by decide +kernel
theorem dX6_shuts_34 : decode cX6_shuts 34 = .ok (.iload_n 1, 1) := by decide +kernel
theorem dX6_shuts_35 : decode cX6_shuts 35 = .ok (.iconst 3, 1) := by decide +kernel
theorem dX6_shuts_36 : decode cX6_shuts 36 = .ok (.invokevirtual 69, 3) := by decide +kernel
theorem dX6_shuts_39 : decode cX6_shuts 39 = .ok (.if_icmp .lt 10, 3) := by decide +kernel
theorem dX6_shuts_42 : decode cX6_shuts 42 = .ok (.aload_n 0, 1) := by decide +kernel
theorem dX6_shuts_43 : decode cX6_shuts 43 = .ok (.iload_n 1, 1) := by decide +kernel
theorem dX6_shuts_44 : decode cX6_shuts 44 = .ok (.iconst 4, 1) := by decide +kernel
theorem dX6_shuts_45 : decode cX6_shuts 45 = .ok (.iconst 1, 1) := by decide +kernel
theorem dX6_shuts_46 : decode cX6_shuts 46 = .ok (.invokevirtual 89, 3) := by decide +kernel
theorem dX6_shuts_49 : decode cX6_shuts 49 = .ok (.return_, 1) := by decide +kernel
theorem dX6_pops_0 : decode cX6_pops 0 = .ok (.aload_n 0, 1) := by decide +kernel
theorem dX6_pops_1 : decode cX6_pops 1 = .ok (.dup, 1) := by decide +kernel
theorem dX6_pops_2 : decode cX6_pops 2 = .ok (.getfield 166, 3) := by decide +kernel
theorem dX6_pops_5 : decode cX6_pops 5 = .ok (.iconst 1, 1) := by decide +kernel
theorem dX6_pops_6 : decode cX6_pops 6 = .ok (.isub, 1) := by decide +kernel
theorem dX6_pops_7 : decode cX6_pops 7 = .ok (.putfield 166, 3) := by decide +kernel
theorem dX6_pops_10 : decode cX6_pops 10 = .ok (.aload_n 0, 1) := by decide +kernel
theorem dX6_pops_11 : decode cX6_pops 11 = .ok (.getfield 19, 3) := by decide +kernel
theorem dX6_pops_14 : decode cX6_pops 14 = .ok (.aload_n 0, 1) := by decide +kernel
theorem dX6_pops_15 : decode cX6_pops 15 = .ok (.getfield 34, 3) := by decide +kernel
theorem dX6_pops_18 : decode cX6_pops 18 = .ok (.aload_n 0, 1) := by decide +kernel
theorem dX6_pops_19 : decode cX6_pops 19 = .ok (.getfield 166, 3) := by decide +kernel
theorem dX6_pops_22 : decode cX6_pops 22 = .ok (.iaload, 1) := by decide +kernel
theorem dX6_pops_23 : decode cX6_pops 23 = .ok (.iaload, 1) := by decide +kernel
theorem dX6_pops_24 : decode cX6_pops 24 = .ok (.istore_n 1, 1) := by decide +kernel
theorem dX6_pops_25 : decode cX6_pops 25 = .ok (.iload_n 1, 1) := by decide +kernel
theorem dX6_pops_26 : decode cX6_pops 26 = .ok (.i2l, 1) := by decide +kernel
theorem dX6_pops_27 : decode cX6_pops 27 = .ok (.ldc2_w 119, 3) := by decide +kernel
theorem dX6_pops_30 : decode cX6_pops 30 = .ok (.ldc2_w 121, 3) := by decide +kernel
theorem dX6_pops_33 : decode cX6_pops 33 = .ok (.invokestatic 62, 3) := by decide +kernel
theorem dX6_pops_36 : decode cX6_pops 36 = .ok (.ifCond .eq 11, 3) := by decide +kernel
theorem dX6_pops_39 : decode cX6_pops 39 = .ok (.aload_n 0, 1) := by decide +kernel
theorem dX6_pops_40 : decode cX6_pops 40 = .ok (.iload_n 1, 1) := by decide +kernel
theorem dX6_pops_41 : decode cX6_pops 41 = .ok (.bipush 48, 2) := by decide +kernel
theorem dX6_pops_43 : decode cX6_pops 43 = .ok (.isub, 1) := by decide +kernel
theorem dX6_pops_44 : decode cX6_pops 44 = .ok (.invokevirtual 179, 3) := by decide +kernel
theorem dX6_pops_47 : decode cX6_pops 47 = .ok (.aload_n 0, 1) := by decide +kernel
theorem dX6_pops_48 : decode cX6_pops 48 = .ok (.aload_n 0, 1) := by decide +kernel
theorem dX6_pops_49 : decode cX6_pops 49 = .ok (.getfield 37, 3) := by decide +kernel
theorem dX6_pops_52 : decode cX6_pops 52 = .ok (.aload_n 0, 1) := by decide +kernel
theorem dX6_pops_53 : decode cX6_pops 53 = .ok (.getfield 166, 3) := by decide +kernel
theorem dX6_pops_56 : decode cX6_pops 56 = .ok (.iaload, 1) := by decide +kernel
theorem dX6_pops_57 : decode cX6_pops 57 = .ok (.putfield 148, 3) := by decide +kernel
theorem dX6_pops_60 : decode cX6_pops 60 = .ok (.return_, 1) := by decide +kernel
theorem dX6_goesIn_0 : decode cX6_goesIn 0 = .ok (.aload_n 0, 1) := by decide +kernel
theorem dX6_goesIn_1 : decode cX6_goesIn 1 = .ok (.getfield 19, 3) := by decide +kernel
theorem dX6_goesIn_4 : decode cX6_goesIn 4 = .ok (.iload_n 1, 1) := by decide +kernel
theorem dX6_goesIn_5 : decode cX6_goesIn 5 = .ok (.iaload, 1) := by decide +kernel
theorem dX6_goesIn_6 : decode cX6_goesIn 6 = .ok (.bipush 48, 2) := by decide +kernel
theorem dX6_goesIn_8 : decode cX6_goesIn 8 = .ok (.isub, 1) := by decide +kernel
theorem dX6_goesIn_9 : decode cX6_goesIn 9 = .ok (.istore_n 2, 1) := by decide +kernel
theorem dX6_goesIn_10 : decode cX6_goesIn 10 = .ok (.aload_n 0, 1) := by decide +kernel
theorem dX6_goesIn_11 : decode cX6_goesIn 11 = .ok (.iload_n 2, 1) := by decide +kernel
theorem dX6_goesIn_12 : decode cX6_goesIn 12 = .ok (.iconst 1, 1) := by decide +kernel
theorem dX6_goesIn_13 : decode cX6_goesIn 13 = .ok (.invokevirtual 69, 3) := by decide +kernel
theorem dX6_goesIn_16 : decode cX6_goesIn 16 = .ok (.istore_n 3, 1) := by decide +kernel
theorem dX6_goesIn_17 : decode cX6_goesIn 17 = .ok (.iload_n 3, 1) := by decide +kernel
theorem dX6_goesIn_18 : decode cX6_goesIn 18 = .ok (.ifCond .le 24, 3) := by decide +kernel
theorem dX6_goesIn_21 : decode cX6_goesIn 21 = .ok (.aload_n 0, 1) := by decide +kernel
theorem dX6_goesIn_22 : decode cX6_goesIn 22 = .ok (.getfield 7, 3) := by decide +kernel
theorem dX6_goesIn_25 : decode cX6_goesIn 25 = .ok (.bipush 56, 2) := by decide +kernel
theorem dX6_goesIn_27 : decode cX6_goesIn 27 = .ok (.iaload, 1) := by decide +kernel
theorem dX6_goesIn_28 : decode cX6_goesIn 28 = .ok (.iload_n 3, 1) := by decide +kernel
theorem dX6_goesIn_29 : decode cX6_goesIn 29 = .ok (.ishr, 1) := by decide +kernel
theorem dX6_goesIn_30 : decode cX6_goesIn 30 = .ok (.iconst 1, 1) := by decide +kernel
theorem dX6_goesIn_31 : decode cX6_goesIn 31 = .ok (.iand, 1) := by decide +kernel
theorem dX6_goesIn_32 : decode cX6_goesIn 32 = .ok (.ifCond .ne 10, 3) := by decide +kernel
theorem dX6_goesIn_35 : decode cX6_goesIn 35 = .ok (.aload_n 0, 1) := by decide +kernel
theorem dX6_goesIn_36 : decode cX6_goesIn 36 = .ok (.iconst 1, 1) := by decide +kernel
theorem dX6_goesIn_37 : decode cX6_goesIn 37 = .ok (.iconst (-1), 1) := by decide +kernel
theorem dX6_goesIn_38 : decode cX6_goesIn 38 = .ok (.invokevirtual 182, 3) := by decide +kernel
theorem dX6_goesIn_41 : decode cX6_goesIn 41 = .ok (.return_, 1) := by decide +kernel
theorem dX6_goesIn_42 : decode cX6_goesIn 42 = .ok (.aload_n 0, 1) := by decide +kernel
theorem dX6_goesIn_43 : decode cX6_goesIn 43 = .ok (.iload_n 2, 1) := by decide +kernel
theorem dX6_goesIn_44 : decode cX6_goesIn 44 = .ok (.bipush 6, 2) := by decide +kernel
theorem dX6_goesIn_46 : decode cX6_goesIn 46 = .ok (.aload_n 0, 1) := by decide +kernel
theorem dX6_goesIn_47 : decode cX6_goesIn 47 = .ok (.iload_n 2, 1) := by decide +kernel
theorem dX6_goesIn_48 : decode cX6_goesIn 48 = .ok (.bipush 6, 2) := by decide +kernel
theorem dX6_goesIn_50 : decode cX6_goesIn 50 = .ok (.invokevirtual 69, 3) := by decide +kernel
theorem dX6_goesIn_53 : decode cX6_goesIn 53 = .ok (.sipush 9999, 3) := by decide +kernel
theorem dX6_goesIn_56 : decode cX6_goesIn 56 = .ok (.if_icmp .ne 9, 3) := by decide +kernel
theorem dX6_goesIn_59 : decode cX6_goesIn 59 = .ok (.sipush 9999, 3) := by decide +kernel
theorem dX6_goesIn_62 : decode cX6_goesIn 62 = .ok (.goto 12, 3) := by decide +kernel
theorem dX6_goesIn_65 : decode cX6_goesIn 65 = .ok (.aload_n 0, 1) := by decide +kernel
theorem dX6_goesIn_66 : decode cX6_goesIn 66 = .ok (.iload_n 2, 1) := by decide +kernel
theorem dX6_goesIn_67 : decode cX6_goesIn 67 = .ok (.bipush 6, 2) := by decide +kernel
theorem dX6_goesIn_69 : decode cX6_goesIn 69 = .ok (.invokevirtual 69, 3) := by decide +kernel
theorem dX6_goesIn_72 : decode cX6_goesIn 72 = .ok (.iconst 1, 1) := by decide +kernel
theorem dX6_goesIn_73 : decode cX6_goesIn 73 = .ok (.iadd, 1) := by decide +kernel
theorem dX6_goesIn_74 : decode cX6_goesIn 74 = .ok (.invokevirtual 89, 3) := by decide +kernel
theorem dX6_goesIn_77 : decode cX6_goesIn 77 = .ok (.aload_n 0, 1) := by decide +kernel
theorem dX6_goesIn_78 : decode cX6_goesIn 78 = .ok (.bipush 10, 2) := by decide +kernel
theorem dX6_goesIn_80 : decode cX6_goesIn 80 = .ok (.iload_n 2, 1) := by decide +kernel
theorem dX6_goesIn_81 : decode cX6_goesIn 81 = .ok (.iadd, 1) := by decide +kernel
theorem dX6_goesIn_82 : decode cX6_goesIn 82 = .ok (.invokevirtual 172, 3) := by decide +kernel
theorem dX6_goesIn_85 : decode cX6_goesIn 85 = .ok (.aload_n 0, 1) := by decide +kernel
theorem dX6_goesIn_86 : decode cX6_goesIn 86 = .ok (.dup, 1) := by decide +kernel
theorem dX6_goesIn_87 : decode cX6_goesIn 87 = .ok (.getfield 169, 3) := by decide +kernel
theorem dX6_goesIn_90 : decode cX6_goesIn 90 = .ok (.iconst 1, 1) := by decide +kernel
theorem dX6_goesIn_91 : decode cX6_goesIn 91 = .ok (.iadd, 1) := by decide +kernel
theorem dX6_goesIn_92 : decode cX6_goesIn 92 = .ok (.putfield 169, 3) := by decide +kernel
theorem dX6_goesIn_95 : decode cX6_goesIn 95 = .ok (.aload_n 0, 1) := by decide +kernel
theorem dX6_goesIn_96 : decode cX6_goesIn 96 = .ok (.aload_n 0, 1) := by decide +kernel
theorem dX6_goesIn_97 : decode cX6_goesIn 97 = .ok (.getfield 169, 3) := by decide +kernel
theorem dX6_goesIn_100 : decode cX6_goesIn 100 = .ok (.aload_n 0, 1) := by decide +kernel
theorem dX6_goesIn_101 : decode cX6_goesIn 101 = .ok (.getfield 186, 3) := by decide +kernel
theorem dX6_goesIn_104 : decode cX6_goesIn 104 = .ok (.if_icmp .le 10, 3) := by decide +kernel
theorem dX6_goesIn_107 : decode cX6_goesIn 107 = .ok (.aload_n 0, 1) := by decide +kernel
theorem dX6_goesIn_108 : decode cX6_goesIn 108 = .ok (.getfield 169, 3) := by decide +kernel
theorem dX6_goesIn_111 : decode cX6_goesIn 111 = .ok (.goto 7, 3) := by decide +kernel
theorem dX6_goesIn_114 : decode cX6_goesIn 114 = .ok (.aload_n 0, 1) := by decide +kernel
theorem dX6_goesIn_115 : decode cX6_goesIn 115 = .ok (.getfield 186, 3) := by decide +kernel
theorem dX6_goesIn_118 : decode cX6_goesIn 118 = .ok (.putfield 186, 3) := by decide +kernel
theorem dX6_goesIn_121 : decode cX6_goesIn 121 = .ok (.aload_n 0, 1) := by decide +kernel
theorem dX6_goesIn_122 : decode cX6_goesIn 122 = .ok (.iload_n 1, 1) := by decide +kernel
theorem dX6_goesIn_123 : decode cX6_goesIn 123 = .ok (.iload_n 2, 1) := by decide +kernel
theorem dX6_goesIn_124 : decode cX6_goesIn 124 = .ok (.iconst 0, 1) := by decide +kernel
theorem dX6_goesIn_125 : decode cX6_goesIn 125 = .ok (.invokevirtual 189, 3) := by decide +kernel
theorem dX6_goesIn_128 : decode cX6_goesIn 128 = .ok (.aload_n 0, 1) := by decide +kernel
theorem dX6_goesIn_129 : decode cX6_goesIn 129 = .ok (.iload_n 2, 1) := by decide +kernel
theorem dX6_goesIn_130 : decode cX6_goesIn 130 = .ok (.invokevirtual 176, 3) := by decide +kernel
theorem dX6_goesIn_133 : decode cX6_goesIn 133 = .ok (.ifCond .eq 30, 3) := by decide +kernel
theorem dX6_goesIn_136 : decode cX6_goesIn 136 = .ok (.aload_n 0, 1) := by decide +kernel
theorem dX6_goesIn_137 : decode cX6_goesIn 137 = .ok (.iload_n 2, 1) := by decide +kernel
theorem dX6_goesIn_138 : decode cX6_goesIn 138 = .ok (.invokevirtual 93, 3) := by decide +kernel
theorem dX6_goesIn_141 : decode cX6_goesIn 141 = .ok (.aload_n 0, 1) := by decide +kernel
theorem dX6_goesIn_142 : decode cX6_goesIn 142 = .ok (.iload_n 2, 1) := by decide +kernel
theorem dX6_goesIn_143 : decode cX6_goesIn 143 = .ok (.iconst 3, 1) := by decide +kernel
theorem dX6_goesIn_144 : decode cX6_goesIn 144 = .ok (.invokevirtual 69, 3) := by decide +kernel
theorem dX6_goesIn_147 : decode cX6_goesIn 147 = .ok (.if_icmp .lt 16, 3) := by decide +kernel
theorem dX6_goesIn_150 : decode cX6_goesIn 150 = .ok (.aload_n 0, 1) := by decide +kernel
theorem dX6_goesIn_151 : decode cX6_goesIn 151 = .ok (.iload_n 2, 1) := by decide +kernel
theorem dX6_goesIn_152 : decode cX6_goesIn 152 = .ok (.iconst 4, 1) := by decide +kernel
theorem dX6_goesIn_153 : decode cX6_goesIn 153 = .ok (.iconst 1, 1) := by decide +kernel
theorem dX6_goesIn_154 : decode cX6_goesIn 154 = .ok (.invokevirtual 89, 3) := by decide +kernel
theorem dX6_goesIn_157 : decode cX6_goesIn 157 = .ok (.aload_n 0, 1) := by decide +kernel
theorem dX6_goesIn_158 : decode cX6_goesIn 158 = .ok (.iconst 2, 1) := by decide +kernel
theorem dX6_goesIn_159 : decode cX6_goesIn 159 = .ok (.iconst (-1), 1) := by decide +kernel
theorem dX6_goesIn_160 : decode cX6_goesIn 160 = .ok (.invokevirtual 182, 3) := by decide +kernel
theorem dX6_goesIn_163 : decode cX6_goesIn 163 = .ok (.return_, 1) := by decide +kernel
theorem dX6_takesKey_0 : decode cX6_takesKey 0 = .ok (.aload_n 0, 1) := by decide +kernel
theorem dX6_takesKey_1 : decode cX6_takesKey 1 = .ok (.aload_n 0, 1) := by decide +kernel
theorem dX6_takesKey_2 : decode cX6_takesKey 2 = .ok (.getfield 148, 3) := by decide +kernel
theorem dX6_takesKey_5 : decode cX6_takesKey 5 = .ok (.iconst 2, 1) := by decide +kernel
theorem dX6_takesKey_6 : decode cX6_takesKey 6 = .ok (.invokevirtual 69, 3) := by decide +kernel
theorem dX6_takesKey_9 : decode cX6_takesKey 9 = .ok (.istore_n 1, 1) := by decide +kernel
theorem dX6_takesKey_10 : decode cX6_takesKey 10 = .ok (.iload_n 1, 1) := by decide +kernel
theorem dX6_takesKey_11 : decode cX6_takesKey 11 = .ok (.ifCond .le 26, 3) := by decide +kernel
theorem dX6_takesKey_14 : decode cX6_takesKey 14 = .ok (.aload_n 0, 1) := by decide +kernel
theorem dX6_takesKey_15 : decode cX6_takesKey 15 = .ok (.getfield 7, 3) := by decide +kernel
theorem dX6_takesKey_18 : decode cX6_takesKey 18 = .ok (.bipush 56, 2) := by decide +kernel
theorem dX6_takesKey_20 : decode cX6_takesKey 20 = .ok (.dup2, 1) := by decide +kernel
theorem dX6_takesKey_21 : decode cX6_takesKey 21 = .ok (.iaload, 1) := by decide +kernel
theorem dX6_takesKey_22 : decode cX6_takesKey 22 = .ok (.iconst 1, 1) := by decide +kernel
theorem dX6_takesKey_23 : decode cX6_takesKey 23 = .ok (.iload_n 1, 1) := by decide +kernel
theorem dX6_takesKey_24 : decode cX6_takesKey 24 = .ok (.ishl, 1) := by decide +kernel
theorem dX6_takesKey_25 : decode cX6_takesKey 25 = .ok (.ior, 1) := by decide +kernel
theorem dX6_takesKey_26 : decode cX6_takesKey 26 = .ok (.iastore, 1) := by decide +kernel
theorem dX6_takesKey_27 : decode cX6_takesKey 27 = .ok (.aload_n 0, 1) := by decide +kernel
theorem dX6_takesKey_28 : decode cX6_takesKey 28 = .ok (.aload_n 0, 1) := by decide +kernel
theorem dX6_takesKey_29 : decode cX6_takesKey 29 = .ok (.getfield 148, 3) := by decide +kernel
theorem dX6_takesKey_32 : decode cX6_takesKey 32 = .ok (.iconst 2, 1) := by decide +kernel
theorem dX6_takesKey_33 : decode cX6_takesKey 33 = .ok (.iconst 0, 1) := by decide +kernel
theorem dX6_takesKey_34 : decode cX6_takesKey 34 = .ok (.invokevirtual 89, 3) := by decide +kernel
theorem dX6_takesKey_37 : decode cX6_takesKey 37 = .ok (.return_, 1) := by decide +kernel
theorem dX6_wakes_0 : decode cX6_wakes 0 = .ok (.aload_n 0, 1) := by decide +kernel
theorem dX6_wakes_1 : decode cX6_wakes 1 = .ok (.aload_n 0, 1) := by decide +kernel
theorem dX6_wakes_2 : decode cX6_wakes 2 = .ok (.getfield 148, 3) := by decide +kernel
theorem dX6_wakes_5 : decode cX6_wakes 5 = .ok (.invokevirtual 176, 3) := by decide +kernel
theorem dX6_wakes_8 : decode cX6_wakes 8 = .ok (.ifCond .eq 19, 3) := by decide +kernel
theorem dX6_wakes_11 : decode cX6_wakes 11 = .ok (.aload_n 0, 1) := by decide +kernel
theorem dX6_wakes_12 : decode cX6_wakes 12 = .ok (.aload_n 0, 1) := by decide +kernel
theorem dX6_wakes_13 : decode cX6_wakes 13 = .ok (.getfield 148, 3) := by decide +kernel
theorem dX6_wakes_16 : decode cX6_wakes 16 = .ok (.iconst 4, 1) := by decide +kernel
theorem dX6_wakes_17 : decode cX6_wakes 17 = .ok (.iconst 1, 1) := by decide +kernel
theorem dX6_wakes_18 : decode cX6_wakes 18 = .ok (.invokevirtual 89, 3) := by decide +kernel
theorem dX6_wakes_21 : decode cX6_wakes 21 = .ok (.aload_n 0, 1) := by decide +kernel
theorem dX6_wakes_22 : decode cX6_wakes 22 = .ok (.iconst 2, 1) := by decide +kernel
theorem dX6_wakes_23 : decode cX6_wakes 23 = .ok (.iconst (-1), 1) := by decide +kernel
theorem dX6_wakes_24 : decode cX6_wakes 24 = .ok (.invokevirtual 182, 3) := by decide +kernel
theorem dX6_wakes_27 : decode cX6_wakes 27 = .ok (.return_, 1) := by decide +kernel
theorem dX6_looksIn_0 : decode cX6_looksIn 0 = .ok (.aload_n 0, 1) := by decide +kernel
theorem dX6_looksIn_1 : decode cX6_looksIn 1 = .ok (.aload_n 0, 1) := by decide +kernel
theorem dX6_looksIn_2 : decode cX6_looksIn 2 = .ok (.getfield 148, 3) := by decide +kernel
theorem dX6_looksIn_5 : decode cX6_looksIn 5 = .ok (.iconst 5, 1) := by decide +kernel
theorem dX6_looksIn_6 : decode cX6_looksIn 6 = .ok (.invokevirtual 69, 3) := by decide +kernel
theorem dX6_looksIn_9 : decode cX6_looksIn 9 = .ok (.ifCond .ne 12, 3) := by decide +kernel
theorem dX6_looksIn_12 : decode cX6_looksIn 12 = .ok (.aload_n 0, 1) := by decide +kernel
theorem dX6_looksIn_13 : decode cX6_looksIn 13 = .ok (.iconst 3, 1) := by decide +kernel
theorem dX6_looksIn_14 : decode cX6_looksIn 14 = .ok (.iconst (-1), 1) := by decide +kernel
theorem dX6_looksIn_15 : decode cX6_looksIn 15 = .ok (.invokevirtual 182, 3) := by decide +kernel
theorem dX6_looksIn_18 : decode cX6_looksIn 18 = .ok (.goto 33, 3) := by decide +kernel
theorem dX6_looksIn_21 : decode cX6_looksIn 21 = .ok (.aload_n 0, 1) := by decide +kernel
theorem dX6_looksIn_22 : decode cX6_looksIn 22 = .ok (.aload_n 0, 1) := by decide +kernel
theorem dX6_looksIn_23 : decode cX6_looksIn 23 = .ok (.getfield 148, 3) := by decide +kernel
theorem dX6_looksIn_26 : decode cX6_looksIn 26 = .ok (.invokevirtual 176, 3) := by decide +kernel
theorem dX6_looksIn_29 : decode cX6_looksIn 29 = .ok (.ifCond .eq 22, 3) := by decide +kernel
theorem dX6_looksIn_32 : decode cX6_looksIn 32 = .ok (.aload_n 0, 1) := by decide +kernel
theorem dX6_looksIn_33 : decode cX6_looksIn 33 = .ok (.getfield 7, 3) := by decide +kernel
theorem dX6_looksIn_36 : decode cX6_looksIn 36 = .ok (.bipush 57, 2) := by decide +kernel
theorem dX6_looksIn_38 : decode cX6_looksIn 38 = .ok (.dup2, 1) := by decide +kernel
theorem dX6_looksIn_39 : decode cX6_looksIn 39 = .ok (.iaload, 1) := by decide +kernel
theorem dX6_looksIn_40 : decode cX6_looksIn 40 = .ok (.aload_n 0, 1) := by decide +kernel
theorem dX6_looksIn_41 : decode cX6_looksIn 41 = .ok (.aload_n 0, 1) := by decide +kernel
theorem dX6_looksIn_42 : decode cX6_looksIn 42 = .ok (.getfield 148, 3) := by decide +kernel
theorem dX6_looksIn_45 : decode cX6_looksIn 45 = .ok (.iconst 3, 1) := by decide +kernel
theorem dX6_looksIn_46 : decode cX6_looksIn 46 = .ok (.invokevirtual 69, 3) := by decide +kernel
theorem dX6_looksIn_49 : decode cX6_looksIn 49 = .ok (.iadd, 1) := by decide +kernel
theorem dX6_looksIn_50 : decode cX6_looksIn 50 = .ok (.iastore, 1) := by decide +kernel
theorem dX6_looksIn_51 : decode cX6_looksIn 51 = .ok (.return_, 1) := by decide +kernel
theorem dX6_figureFrom_0 : decode cX6_figureFrom 0 = .ok (.aload_n 0, 1) := by decide +kernel
theorem dX6_figureFrom_1 : decode cX6_figureFrom 1 = .ok (.iload_n 1, 1) := by decide +kernel
theorem dX6_figureFrom_2 : decode cX6_figureFrom 2 = .ok (.putfield 113, 3) := by decide +kernel
theorem dX6_figureFrom_5 : decode cX6_figureFrom 5 = .ok (.aload_n 0, 1) := by decide +kernel
theorem dX6_figureFrom_6 : decode cX6_figureFrom 6 = .ok (.invokevirtual 116, 3) := by decide +kernel
theorem dX6_figureFrom_9 : decode cX6_figureFrom 9 = .ok (.aload_n 0, 1) := by decide +kernel
theorem dX6_figureFrom_10 : decode cX6_figureFrom 10 = .ok (.getfield 19, 3) := by decide +kernel
theorem dX6_figureFrom_13 : decode cX6_figureFrom 13 = .ok (.aload_n 0, 1) := by decide +kernel
theorem dX6_figureFrom_14 : decode cX6_figureFrom 14 = .ok (.getfield 113, 3) := by decide +kernel
theorem dX6_figureFrom_17 : decode cX6_figureFrom 17 = .ok (.iaload, 1) := by decide +kernel
theorem dX6_figureFrom_18 : decode cX6_figureFrom 18 = .ok (.bipush 48, 2) := by decide +kernel
theorem dX6_figureFrom_20 : decode cX6_figureFrom 20 = .ok (.isub, 1) := by decide +kernel
theorem dX6_figureFrom_21 : decode cX6_figureFrom 21 = .ok (.istore_n 2, 1) := by decide +kernel
theorem dX6_figureFrom_22 : decode cX6_figureFrom 22 = .ok (.aload_n 0, 1) := by decide +kernel
theorem dX6_figureFrom_23 : decode cX6_figureFrom 23 = .ok (.dup, 1) := by decide +kernel
theorem dX6_figureFrom_24 : decode cX6_figureFrom 24 = .ok (.getfield 113, 3) := by decide +kernel
theorem dX6_figureFrom_27 : decode cX6_figureFrom 27 = .ok (.iconst 1, 1) := by decide +kernel
theorem dX6_figureFrom_28 : decode cX6_figureFrom 28 = .ok (.iadd, 1) := by decide +kernel
theorem dX6_figureFrom_29 : decode cX6_figureFrom 29 = .ok (.putfield 113, 3) := by decide +kernel
theorem dX6_figureFrom_32 : decode cX6_figureFrom 32 = .ok (.iload_n 2, 1) := by decide +kernel
theorem dX6_figureFrom_33 : decode cX6_figureFrom 33 = .ok (.ireturn, 1) := by decide +kernel
theorem dX6_behindByte_0 : decode cX6_behindByte 0 = .ok (.aload_n 0, 1) := by decide +kernel
theorem dX6_behindByte_1 : decode cX6_behindByte 1 = .ok (.invokevirtual 116, 3) := by decide +kernel
theorem dX6_behindByte_4 : decode cX6_behindByte 4 = .ok (.aload_n 0, 1) := by decide +kernel
theorem dX6_behindByte_5 : decode cX6_behindByte 5 = .ok (.getfield 19, 3) := by decide +kernel
theorem dX6_behindByte_8 : decode cX6_behindByte 8 = .ok (.aload_n 0, 1) := by decide +kernel
theorem dX6_behindByte_9 : decode cX6_behindByte 9 = .ok (.getfield 113, 3) := by decide +kernel
theorem dX6_behindByte_12 : decode cX6_behindByte 12 = .ok (.iaload, 1) := by decide +kernel
theorem dX6_behindByte_13 : decode cX6_behindByte 13 = .ok (.iload_n 1, 1) := by decide +kernel
theorem dX6_behindByte_14 : decode cX6_behindByte 14 = .ok (.if_icmp .eq 16, 3) := by decide +kernel
theorem dX6_behindByte_17 : decode cX6_behindByte 17 = .ok (.aload_n 0, 1) := by decide +kernel
theorem dX6_behindByte_18 : decode cX6_behindByte 18 = .ok (.dup, 1) := by decide +kernel
theorem dX6_behindByte_19 : decode cX6_behindByte 19 = .ok (.getfield 113, 3) := by decide +kernel
theorem dX6_behindByte_22 : decode cX6_behindByte 22 = .ok (.iconst 1, 1) := by decide +kernel
theorem dX6_behindByte_23 : decode cX6_behindByte 23 = .ok (.iadd, 1) := by decide +kernel
theorem dX6_behindByte_24 : decode cX6_behindByte 24 = .ok (.putfield 113, 3) := by decide +kernel
theorem dX6_behindByte_27 : decode cX6_behindByte 27 = .ok (.goto (-23), 3) := by decide +kernel
theorem dX6_behindByte_30 : decode cX6_behindByte 30 = .ok (.aload_n 0, 1) := by decide +kernel
theorem dX6_behindByte_31 : decode cX6_behindByte 31 = .ok (.dup, 1) := by decide +kernel
theorem dX6_behindByte_32 : decode cX6_behindByte 32 = .ok (.getfield 113, 3) := by decide +kernel
theorem dX6_behindByte_35 : decode cX6_behindByte 35 = .ok (.iconst 1, 1) := by decide +kernel
theorem dX6_behindByte_36 : decode cX6_behindByte 36 = .ok (.iadd, 1) := by decide +kernel
theorem dX6_behindByte_37 : decode cX6_behindByte 37 = .ok (.putfield 113, 3) := by decide +kernel
theorem dX6_behindByte_40 : decode cX6_behindByte 40 = .ok (.return_, 1) := by decide +kernel
theorem dX6_begins_0 : decode cX6_begins 0 = .ok (.aload_n 0, 1) := by decide +kernel
theorem dX6_begins_1 : decode cX6_begins 1 = .ok (.getfield 19, 3) := by decide +kernel
theorem dX6_begins_4 : decode cX6_begins 4 = .ok (.iload_n 1, 1) := by decide +kernel
theorem dX6_begins_5 : decode cX6_begins 5 = .ok (.iaload, 1) := by decide +kernel
theorem dX6_begins_6 : decode cX6_begins 6 = .ok (.istore_n 2, 1) := by decide +kernel
theorem dX6_begins_7 : decode cX6_begins 7 = .ok (.aload_n 0, 1) := by decide +kernel
theorem dX6_begins_8 : decode cX6_begins 8 = .ok (.getfield 192, 3) := by decide +kernel
theorem dX6_begins_11 : decode cX6_begins 11 = .ok (.bipush 40, 2) := by decide +kernel
theorem dX6_begins_13 : decode cX6_begins 13 = .ok (.if_icmp .ne 11, 3) := by decide +kernel
theorem dX6_begins_16 : decode cX6_begins 16 = .ok (.aload_n 0, 1) := by decide +kernel
theorem dX6_begins_17 : decode cX6_begins 17 = .ok (.bipush 6, 2) := by decide +kernel
theorem dX6_begins_19 : decode cX6_begins 19 = .ok (.iconst (-1), 1) := by decide +kernel
theorem dX6_begins_20 : decode cX6_begins 20 = .ok (.invokevirtual 182, 3) := by decide +kernel
theorem dX6_begins_23 : decode cX6_begins 23 = .ok (.return_, 1) := by decide +kernel
theorem dX6_begins_24 : decode cX6_begins 24 = .ok (.aload_n 0, 1) := by decide +kernel
theorem dX6_begins_25 : decode cX6_begins 25 = .ok (.dup, 1) := by decide +kernel
theorem dX6_begins_26 : decode cX6_begins 26 = .ok (.getfield 192, 3) := by decide +kernel
theorem dX6_begins_29 : decode cX6_begins 29 = .ok (.iconst 1, 1) := by decide +kernel
theorem dX6_begins_30 : decode cX6_begins 30 = .ok (.iadd, 1) := by decide +kernel
theorem dX6_begins_31 : decode cX6_begins 31 = .ok (.putfield 192, 3) := by decide +kernel
theorem dX6_begins_34 : decode cX6_begins 34 = .ok (.aload_n 0, 1) := by decide +kernel
theorem dX6_begins_35 : decode cX6_begins 35 = .ok (.iload_n 1, 1) := by decide +kernel
theorem dX6_begins_36 : decode cX6_begins 36 = .ok (.iconst 1, 1) := by decide +kernel
theorem dX6_begins_37 : decode cX6_begins 37 = .ok (.iadd, 1) := by decide +kernel
theorem dX6_begins_38 : decode cX6_begins 38 = .ok (.putfield 113, 3) := by decide +kernel
theorem dX6_begins_41 : decode cX6_begins 41 = .ok (.iload_n 2, 1) := by decide +kernel
theorem dX6_begins_42 : decode cX6_begins 42 = .ok (.i2l, 1) := by decide +kernel
theorem dX6_begins_43 : decode cX6_begins 43 = .ok (.ldc2_w 119, 3) := by decide +kernel
theorem dX6_begins_46 : decode cX6_begins 46 = .ok (.ldc2_w 121, 3) := by decide +kernel
theorem dX6_begins_49 : decode cX6_begins 49 = .ok (.invokestatic 62, 3) := by decide +kernel
theorem dX6_begins_52 : decode cX6_begins 52 = .ok (.ifCond .eq 17, 3) := by decide +kernel
theorem dX6_begins_55 : decode cX6_begins 55 = .ok (.aload_n 0, 1) := by decide +kernel
theorem dX6_begins_56 : decode cX6_begins 56 = .ok (.bipush 123, 2) := by decide +kernel
theorem dX6_begins_58 : decode cX6_begins 58 = .ok (.invokevirtual 195, 3) := by decide +kernel
theorem dX6_begins_61 : decode cX6_begins 61 = .ok (.aload_n 0, 1) := by decide +kernel
theorem dX6_begins_62 : decode cX6_begins 62 = .ok (.iload_n 1, 1) := by decide +kernel
theorem dX6_begins_63 : decode cX6_begins 63 = .ok (.invokevirtual 198, 3) := by decide +kernel
theorem dX6_begins_66 : decode cX6_begins 66 = .ok (.goto 206, 3) := by decide +kernel
theorem dX6_begins_69 : decode cX6_begins 69 = .ok (.iload_n 2, 1) := by decide +kernel
theorem dX6_begins_70 : decode cX6_begins 70 = .ok (.bipush 40, 2) := by decide +kernel
theorem dX6_begins_72 : decode cX6_begins 72 = .ok (.if_icmp .eq 15, 3) := by decide +kernel
theorem dX6_begins_75 : decode cX6_begins 75 = .ok (.iload_n 2, 1) := by decide +kernel
theorem dX6_begins_76 : decode cX6_begins 76 = .ok (.bipush 91, 2) := by decide +kernel
theorem dX6_begins_78 : decode cX6_begins 78 = .ok (.if_icmp .eq 9, 3) := by decide +kernel
theorem dX6_begins_81 : decode cX6_begins 81 = .ok (.iload_n 2, 1) := by decide +kernel
theorem dX6_begins_82 : decode cX6_begins 82 = .ok (.bipush 60, 2) := by decide +kernel
theorem dX6_begins_84 : decode cX6_begins 84 = .ok (.if_icmp .ne 16, 3) := by decide +kernel
theorem dX6_begins_87 : decode cX6_begins 87 = .ok (.aload_n 0, 1) := by decide +kernel
theorem dX6_begins_88 : decode cX6_begins 88 = .ok (.iload_n 1, 1) := by decide +kernel
theorem dX6_begins_89 : decode cX6_begins 89 = .ok (.aload_n 0, 1) := by decide +kernel
theorem dX6_begins_90 : decode cX6_begins 90 = .ok (.getfield 148, 3) := by decide +kernel
theorem dX6_begins_93 : decode cX6_begins 93 = .ok (.iconst 0, 1) := by decide +kernel
theorem dX6_begins_94 : decode cX6_begins 94 = .ok (.invokevirtual 189, 3) := by decide +kernel
theorem dX6_begins_97 : decode cX6_begins 97 = .ok (.goto 175, 3) := by decide +kernel
theorem dX6_begins_100 : decode cX6_begins 100 = .ok (.iload_n 2, 1) := by decide +kernel
theorem dX6_begins_101 : decode cX6_begins 101 = .ok (.bipush 120, 2) := by decide +kernel
theorem dX6_begins_103 : decode cX6_begins 103 = .ok (.if_icmp .ne 49, 3) := by decide +kernel
theorem dX6_begins_106 : decode cX6_begins 106 = .ok (.aload_n 0, 1) := by decide +kernel
theorem dX6_begins_107 : decode cX6_begins 107 = .ok (.iload_n 1, 1) := by decide +kernel
theorem dX6_begins_108 : decode cX6_begins 108 = .ok (.iconst 1, 1) := by decide +kernel
theorem dX6_begins_109 : decode cX6_begins 109 = .ok (.iadd, 1) := by decide +kernel
theorem dX6_begins_110 : decode cX6_begins 110 = .ok (.invokevirtual 201, 3) := by decide +kernel
theorem dX6_begins_113 : decode cX6_begins 113 = .ok (.istore_n 3, 1) := by decide +kernel
theorem dX6_begins_114 : decode cX6_begins 114 = .ok (.aload_n 0, 1) := by decide +kernel
theorem dX6_begins_115 : decode cX6_begins 115 = .ok (.bipush 58, 2) := by decide +kernel
theorem dX6_begins_117 : decode cX6_begins 117 = .ok (.invokevirtual 195, 3) := by decide +kernel
theorem dX6_begins_120 : decode cX6_begins 120 = .ok (.iload_n 3, 1) := by decide +kernel
theorem dX6_begins_121 : decode cX6_begins 121 = .ok (.ifCond .ne 18, 3) := by decide +kernel
theorem dX6_begins_124 : decode cX6_begins 124 = .ok (.aload_n 0, 1) := by decide +kernel
theorem dX6_begins_125 : decode cX6_begins 125 = .ok (.aload_n 0, 1) := by decide +kernel
theorem dX6_begins_126 : decode cX6_begins 126 = .ok (.getfield 22, 3) := by decide +kernel
theorem dX6_begins_129 : decode cX6_begins 129 = .ok (.iload_n 1, 1) := by decide +kernel
theorem dX6_begins_130 : decode cX6_begins 130 = .ok (.iaload, 1) := by decide +kernel
theorem dX6_begins_131 : decode cX6_begins 131 = .ok (.iconst 1, 1) := by decide +kernel
theorem dX6_begins_132 : decode cX6_begins 132 = .ok (.iadd, 1) := by decide +kernel
theorem dX6_begins_133 : decode cX6_begins 133 = .ok (.putfield 113, 3) := by decide +kernel
theorem dX6_begins_136 : decode cX6_begins 136 = .ok (.goto 13, 3) := by decide +kernel
theorem dX6_begins_139 : decode cX6_begins 139 = .ok (.aload_n 0, 1) := by decide +kernel
theorem dX6_begins_140 : decode cX6_begins 140 = .ok (.iload_n 1, 1) := by decide +kernel
theorem dX6_begins_141 : decode cX6_begins 141 = .ok (.aload_n 0, 1) := by decide +kernel
theorem dX6_begins_142 : decode cX6_begins 142 = .ok (.getfield 148, 3) := by decide +kernel
theorem dX6_begins_145 : decode cX6_begins 145 = .ok (.iload_n 3, 1) := by decide +kernel
theorem dX6_begins_146 : decode cX6_begins 146 = .ok (.invokevirtual 189, 3) := by decide +kernel
theorem dX6_begins_149 : decode cX6_begins 149 = .ok (.goto 123, 3) := by decide +kernel
theorem dX6_begins_152 : decode cX6_begins 152 = .ok (.iload_n 2, 1) := by decide +kernel
theorem dX6_begins_153 : decode cX6_begins 153 = .ok (.bipush 33, 2) := by decide +kernel
theorem dX6_begins_155 : decode cX6_begins 155 = .ok (.if_icmp .ne 18, 3) := by decide +kernel
theorem dX6_begins_158 : decode cX6_begins 158 = .ok (.aload_n 0, 1) := by decide +kernel
theorem dX6_begins_159 : decode cX6_begins 159 = .ok (.iconst 4, 1) := by decide +kernel
theorem dX6_begins_160 : decode cX6_begins 160 = .ok (.aload_n 0, 1) := by decide +kernel
theorem dX6_begins_161 : decode cX6_begins 161 = .ok (.iload_n 1, 1) := by decide +kernel
theorem dX6_begins_162 : decode cX6_begins 162 = .ok (.iconst 1, 1) := by decide +kernel
theorem dX6_begins_163 : decode cX6_begins 163 = .ok (.iadd, 1) := by decide +kernel
theorem dX6_begins_164 : decode cX6_begins 164 = .ok (.invokevirtual 201, 3) := by decide +kernel
theorem dX6_begins_167 : decode cX6_begins 167 = .ok (.invokevirtual 182, 3) := by decide +kernel
theorem dX6_begins_170 : decode cX6_begins 170 = .ok (.goto 102, 3) := by decide +kernel
theorem dX6_begins_173 : decode cX6_begins 173 = .ok (.iload_n 2, 1) := by decide +kernel
theorem dX6_begins_174 : decode cX6_begins 174 = .ok (.bipush 43, 2) := by decide +kernel
theorem dX6_begins_176 : decode cX6_begins 176 = .ok (.if_icmp .ne 20, 3) := by decide +kernel
theorem dX6_begins_179 : decode cX6_begins 179 = .ok (.aload_n 0, 1) := by decide +kernel
theorem dX6_begins_180 : decode cX6_begins 180 = .ok (.getfield 7, 3) := by decide +kernel
theorem dX6_begins_183 : decode cX6_begins 183 = .ok (.bipush 57, 2) := by decide +kernel
theorem dX6_begins_185 : decode cX6_begins 185 = .ok (.dup2, 1) := by decide +kernel
theorem dX6_begins_186 : decode cX6_begins 186 = .ok (.iaload, 1) := by decide +kernel
theorem dX6_begins_187 : decode cX6_begins 187 = .ok (.aload_n 0, 1) := by decide +kernel
theorem dX6_begins_188 : decode cX6_begins 188 = .ok (.getfield 169, 3) := by decide +kernel
theorem dX6_begins_191 : decode cX6_begins 191 = .ok (.iadd, 1) := by decide +kernel
theorem dX6_begins_192 : decode cX6_begins 192 = .ok (.iastore, 1) := by decide +kernel
theorem dX6_begins_193 : decode cX6_begins 193 = .ok (.goto 79, 3) := by decide +kernel
theorem dX6_begins_196 : decode cX6_begins 196 = .ok (.aload_n 0, 1) := by decide +kernel
theorem dX6_begins_197 : decode cX6_begins 197 = .ok (.getfield 148, 3) := by decide +kernel
theorem dX6_begins_200 : decode cX6_begins 200 = .ok (.iconst (-1), 1) := by decide +kernel
theorem dX6_begins_201 : decode cX6_begins 201 = .ok (.if_icmp .ne 12, 3) := by decide +kernel
theorem dX6_begins_204 : decode cX6_begins 204 = .ok (.aload_n 0, 1) := by decide +kernel
theorem dX6_begins_205 : decode cX6_begins 205 = .ok (.iconst 3, 1) := by decide +kernel
theorem dX6_begins_206 : decode cX6_begins 206 = .ok (.iconst (-1), 1) := by decide +kernel
theorem dX6_begins_207 : decode cX6_begins 207 = .ok (.invokevirtual 182, 3) := by decide +kernel
theorem dX6_begins_210 : decode cX6_begins 210 = .ok (.goto 62, 3) := by decide +kernel
theorem dX6_begins_213 : decode cX6_begins 213 = .ok (.iload_n 2, 1) := by decide +kernel
theorem dX6_begins_214 : decode cX6_begins 214 = .ok (.bipush 108, 2) := by decide +kernel
theorem dX6_begins_216 : decode cX6_begins 216 = .ok (.if_icmp .ne 26, 3) := by decide +kernel
theorem dX6_begins_219 : decode cX6_begins 219 = .ok (.aload_n 0, 1) := by decide +kernel
theorem dX6_begins_220 : decode cX6_begins 220 = .ok (.aload_n 0, 1) := by decide +kernel
theorem dX6_begins_221 : decode cX6_begins 221 = .ok (.getfield 148, 3) := by decide +kernel
theorem dX6_begins_224 : decode cX6_begins 224 = .ok (.iconst 5, 1) := by decide +kernel
theorem dX6_begins_225 : decode cX6_begins 225 = .ok (.iconst 1, 1) := by decide +kernel
theorem dX6_begins_226 : decode cX6_begins 226 = .ok (.aload_n 0, 1) := by decide +kernel
theorem dX6_begins_227 : decode cX6_begins 227 = .ok (.aload_n 0, 1) := by decide +kernel
theorem dX6_begins_228 : decode cX6_begins 228 = .ok (.getfield 148, 3) := by decide +kernel
theorem dX6_begins_231 : decode cX6_begins 231 = .ok (.iconst 5, 1) := by decide +kernel
theorem dX6_begins_232 : decode cX6_begins 232 = .ok (.invokevirtual 69, 3) := by decide +kernel
theorem dX6_begins_235 : decode cX6_begins 235 = .ok (.isub, 1) := by decide +kernel
theorem dX6_begins_236 : decode cX6_begins 236 = .ok (.invokevirtual 89, 3) := by decide +kernel
theorem dX6_begins_239 : decode cX6_begins 239 = .ok (.goto 33, 3) := by decide +kernel
theorem dX6_begins_242 : decode cX6_begins 242 = .ok (.iload_n 2, 1) := by decide +kernel
theorem dX6_begins_243 : decode cX6_begins 243 = .ok (.bipush 107, 2) := by decide +kernel
theorem dX6_begins_245 : decode cX6_begins 245 = .ok (.if_icmp .ne 10, 3) := by decide +kernel
theorem dX6_begins_248 : decode cX6_begins 248 = .ok (.aload_n 0, 1) := by decide +kernel
theorem dX6_begins_249 : decode cX6_begins 249 = .ok (.invokevirtual 204, 3) := by decide +kernel
theorem dX6_begins_252 : decode cX6_begins 252 = .ok (.goto 20, 3) := by decide +kernel
theorem dX6_begins_255 : decode cX6_begins 255 = .ok (.iload_n 2, 1) := by decide +kernel
theorem dX6_begins_256 : decode cX6_begins 256 = .ok (.bipush 119, 2) := by decide +kernel
theorem dX6_begins_258 : decode cX6_begins 258 = .ok (.if_icmp .ne 10, 3) := by decide +kernel
theorem dX6_begins_261 : decode cX6_begins 261 = .ok (.aload_n 0, 1) := by decide +kernel
theorem dX6_begins_262 : decode cX6_begins 262 = .ok (.invokevirtual 207, 3) := by decide +kernel
theorem dX6_begins_265 : decode cX6_begins 265 = .ok (.goto 7, 3) := by decide +kernel
theorem dX6_begins_268 : decode cX6_begins 268 = .ok (.aload_n 0, 1) := by decide +kernel
theorem dX6_begins_269 : decode cX6_begins 269 = .ok (.invokevirtual 210, 3) := by decide +kernel
theorem dX6_begins_272 : decode cX6_begins 272 = .ok (.return_, 1) := by decide +kernel
theorem dX6_goesDown_0 : decode cX6_goesDown 0 = .ok (.aload_n 0, 1) := by decide +kernel
theorem dX6_goesDown_1 : decode cX6_goesDown 1 = .ok (.getfield 166, 3) := by decide +kernel
theorem dX6_goesDown_4 : decode cX6_goesDown 4 = .ok (.iconst 1, 1) := by decide +kernel
theorem dX6_goesDown_5 : decode cX6_goesDown 5 = .ok (.isub, 1) := by decide +kernel
theorem dX6_goesDown_6 : decode cX6_goesDown 6 = .ok (.istore_n 1, 1) := by decide +kernel
theorem dX6_goesDown_7 : decode cX6_goesDown 7 = .ok (.aload_n 0, 1) := by decide +kernel
theorem dX6_goesDown_8 : decode cX6_goesDown 8 = .ok (.getfield 34, 3) := by decide +kernel
theorem dX6_goesDown_11 : decode cX6_goesDown 11 = .ok (.iload_n 1, 1) := by decide +kernel
theorem dX6_goesDown_12 : decode cX6_goesDown 12 = .ok (.iaload, 1) := by decide +kernel
theorem dX6_goesDown_13 : decode cX6_goesDown 13 = .ok (.istore_n 2, 1) := by decide +kernel
theorem dX6_goesDown_14 : decode cX6_goesDown 14 = .ok (.aload_n 0, 1) := by decide +kernel
theorem dX6_goesDown_15 : decode cX6_goesDown 15 = .ok (.getfield 19, 3) := by decide +kernel
theorem dX6_goesDown_18 : decode cX6_goesDown 18 = .ok (.iload_n 2, 1) := by decide +kernel
theorem dX6_goesDown_19 : decode cX6_goesDown 19 = .ok (.iaload, 1) := by decide +kernel
theorem dX6_goesDown_20 : decode cX6_goesDown 20 = .ok (.istore_n 3, 1) := by decide +kernel
theorem dX6_goesDown_21 : decode cX6_goesDown 21 = .ok (.aload_n 0, 1) := by decide +kernel
theorem dX6_goesDown_22 : decode cX6_goesDown 22 = .ok (.getfield 43, 3) := by decide +kernel
theorem dX6_goesDown_25 : decode cX6_goesDown 25 = .ok (.iload_n 1, 1) := by decide +kernel
theorem dX6_goesDown_26 : decode cX6_goesDown 26 = .ok (.baload, 1) := by decide +kernel
theorem dX6_goesDown_27 : decode cX6_goesDown 27 = .ok (.ifCond .ne 7, 3) := by decide +kernel
theorem dX6_goesDown_30 : decode cX6_goesDown 30 = .ok (.iconst 1, 1) := by decide +kernel
theorem dX6_goesDown_31 : decode cX6_goesDown 31 = .ok (.goto 4, 3) := by decide +kernel
theorem dX6_goesDown_34 : decode cX6_goesDown 34 = .ok (.iconst 0, 1) := by decide +kernel
theorem dX6_goesDown_35 : decode cX6_goesDown 35 = .ok (.istore 4, 2) := by decide +kernel
theorem dX6_goesDown_37 : decode cX6_goesDown 37 = .ok (.iload_n 3, 1) := by decide +kernel
theorem dX6_goesDown_38 : decode cX6_goesDown 38 = .ok (.bipush 40, 2) := by decide +kernel
theorem dX6_goesDown_40 : decode cX6_goesDown 40 = .ok (.if_icmp .ne 43, 3) := by decide +kernel
theorem dX6_goesDown_43 : decode cX6_goesDown 43 = .ok (.iload 4, 2) := by decide +kernel
theorem dX6_goesDown_45 : decode cX6_goesDown 45 = .ok (.ifCond .eq 38, 3) := by decide +kernel
theorem dX6_goesDown_48 : decode cX6_goesDown 48 = .ok (.aload_n 0, 1) := by decide +kernel
theorem dX6_goesDown_49 : decode cX6_goesDown 49 = .ok (.getfield 145, 3) := by decide +kernel
theorem dX6_goesDown_52 : decode cX6_goesDown 52 = .ok (.iconst 3, 1) := by decide +kernel
theorem dX6_goesDown_53 : decode cX6_goesDown 53 = .ok (.if_icmp .gt 30, 3) := by decide +kernel
theorem dX6_goesDown_56 : decode cX6_goesDown 56 = .ok (.aload_n 0, 1) := by decide +kernel
theorem dX6_goesDown_57 : decode cX6_goesDown 57 = .ok (.iconst 0, 1) := by decide +kernel
theorem dX6_goesDown_58 : decode cX6_goesDown 58 = .ok (.putfield 145, 3) := by decide +kernel
theorem dX6_goesDown_61 : decode cX6_goesDown 61 = .ok (.aload_n 0, 1) := by decide +kernel
theorem dX6_goesDown_62 : decode cX6_goesDown 62 = .ok (.getfield 43, 3) := by decide +kernel
theorem dX6_goesDown_65 : decode cX6_goesDown 65 = .ok (.iload_n 1, 1) := by decide +kernel
theorem dX6_goesDown_66 : decode cX6_goesDown 66 = .ok (.iconst 1, 1) := by decide +kernel
theorem dX6_goesDown_67 : decode cX6_goesDown 67 = .ok (.bastore, 1) := by decide +kernel
theorem dX6_goesDown_68 : decode cX6_goesDown 68 = .ok (.aload_n 0, 1) := by decide +kernel
theorem dX6_goesDown_69 : decode cX6_goesDown 69 = .ok (.aload_n 0, 1) := by decide +kernel
theorem dX6_goesDown_70 : decode cX6_goesDown 70 = .ok (.getfield 25, 3) := by decide +kernel
theorem dX6_goesDown_73 : decode cX6_goesDown 73 = .ok (.iload_n 2, 1) := by decide +kernel
theorem dX6_goesDown_74 : decode cX6_goesDown 74 = .ok (.iaload, 1) := by decide +kernel
theorem dX6_goesDown_75 : decode cX6_goesDown 75 = .ok (.iconst 1, 1) := by decide +kernel
theorem dX6_goesDown_76 : decode cX6_goesDown 76 = .ok (.iadd, 1) := by decide +kernel
theorem dX6_goesDown_77 : decode cX6_goesDown 77 = .ok (.putfield 113, 3) := by decide +kernel
theorem dX6_goesDown_80 : decode cX6_goesDown 80 = .ok (.goto 130, 3) := by decide +kernel
theorem dX6_goesDown_83 : decode cX6_goesDown 83 = .ok (.iload_n 3, 1) := by decide +kernel
theorem dX6_goesDown_84 : decode cX6_goesDown 84 = .ok (.bipush 91, 2) := by decide +kernel
theorem dX6_goesDown_86 : decode cX6_goesDown 86 = .ok (.if_icmp .ne 80, 3) := by decide +kernel
theorem dX6_goesDown_89 : decode cX6_goesDown 89 = .ok (.iload 4, 2) := by decide +kernel
theorem dX6_goesDown_91 : decode cX6_goesDown 91 = .ok (.ifCond .eq 75, 3) := by decide +kernel
theorem dX6_goesDown_94 : decode cX6_goesDown 94 = .ok (.aload_n 0, 1) := by decide +kernel
theorem dX6_goesDown_95 : decode cX6_goesDown 95 = .ok (.getfield 145, 3) := by decide +kernel
theorem dX6_goesDown_98 : decode cX6_goesDown 98 = .ok (.iconst 4, 1) := by decide +kernel
theorem dX6_goesDown_99 : decode cX6_goesDown 99 = .ok (.if_icmp .eq 11, 3) := by decide +kernel
theorem dX6_goesDown_102 : decode cX6_goesDown 102 = .ok (.aload_n 0, 1) := by decide +kernel
theorem dX6_goesDown_103 : decode cX6_goesDown 103 = .ok (.getfield 145, 3) := by decide +kernel
theorem dX6_goesDown_106 : decode cX6_goesDown 106 = .ok (.iconst 5, 1) := by decide +kernel
theorem dX6_goesDown_107 : decode cX6_goesDown 107 = .ok (.if_icmp .ne 59, 3) := by decide +kernel
theorem dX6_goesDown_110 : decode cX6_goesDown 110 = .ok (.aload_n 0, 1) := by decide +kernel
theorem dX6_goesDown_111 : decode cX6_goesDown 111 = .ok (.getfield 7, 3) := by decide +kernel
theorem dX6_goesDown_114 : decode cX6_goesDown 114 = .ok (.bipush 57, 2) := by decide +kernel
theorem dX6_goesDown_116 : decode cX6_goesDown 116 = .ok (.dup2, 1) := by decide +kernel
theorem dX6_goesDown_117 : decode cX6_goesDown 117 = .ok (.iaload, 1) := by decide +kernel
theorem dX6_goesDown_118 : decode cX6_goesDown 118 = .ok (.aload_n 0, 1) := by decide +kernel
theorem dX6_goesDown_119 : decode cX6_goesDown 119 = .ok (.getfield 145, 3) := by decide +kernel
theorem dX6_goesDown_122 : decode cX6_goesDown 122 = .ok (.iconst 4, 1) := by decide +kernel
theorem dX6_goesDown_123 : decode cX6_goesDown 123 = .ok (.if_icmp .ne 10, 3) := by decide +kernel
theorem dX6_goesDown_126 : decode cX6_goesDown 126 = .ok (.aload_n 0, 1) := by decide +kernel
theorem dX6_goesDown_127 : decode cX6_goesDown 127 = .ok (.getfield 154, 3) := by decide +kernel
theorem dX6_goesDown_130 : decode cX6_goesDown 130 = .ok (.goto 7, 3) := by decide +kernel
theorem dX6_goesDown_133 : decode cX6_goesDown 133 = .ok (.aload_n 0, 1) := by decide +kernel
theorem dX6_goesDown_134 : decode cX6_goesDown 134 = .ok (.getfield 157, 3) := by decide +kernel
theorem dX6_goesDown_137 : decode cX6_goesDown 137 = .ok (.iadd, 1) := by decide +kernel
theorem dX6_goesDown_138 : decode cX6_goesDown 138 = .ok (.iastore, 1) := by decide +kernel
theorem dX6_goesDown_139 : decode cX6_goesDown 139 = .ok (.aload_n 0, 1) := by decide +kernel
theorem dX6_goesDown_140 : decode cX6_goesDown 140 = .ok (.iconst 0, 1) := by decide +kernel
theorem dX6_goesDown_141 : decode cX6_goesDown 141 = .ok (.putfield 145, 3) := by decide +kernel
theorem dX6_goesDown_144 : decode cX6_goesDown 144 = .ok (.aload_n 0, 1) := by decide +kernel
theorem dX6_goesDown_145 : decode cX6_goesDown 145 = .ok (.getfield 43, 3) := by decide +kernel
theorem dX6_goesDown_148 : decode cX6_goesDown 148 = .ok (.iload_n 1, 1) := by decide +kernel
theorem dX6_goesDown_149 : decode cX6_goesDown 149 = .ok (.iconst 1, 1) := by decide +kernel
theorem dX6_goesDown_150 : decode cX6_goesDown 150 = .ok (.bastore, 1) := by decide +kernel
theorem dX6_goesDown_151 : decode cX6_goesDown 151 = .ok (.aload_n 0, 1) := by decide +kernel
theorem dX6_goesDown_152 : decode cX6_goesDown 152 = .ok (.aload_n 0, 1) := by decide +kernel
theorem dX6_goesDown_153 : decode cX6_goesDown 153 = .ok (.getfield 25, 3) := by decide +kernel
theorem dX6_goesDown_156 : decode cX6_goesDown 156 = .ok (.iload_n 2, 1) := by decide +kernel
theorem dX6_goesDown_157 : decode cX6_goesDown 157 = .ok (.iaload, 1) := by decide +kernel
theorem dX6_goesDown_158 : decode cX6_goesDown 158 = .ok (.iconst 1, 1) := by decide +kernel
theorem dX6_goesDown_159 : decode cX6_goesDown 159 = .ok (.iadd, 1) := by decide +kernel
theorem dX6_goesDown_160 : decode cX6_goesDown 160 = .ok (.putfield 113, 3) := by decide +kernel
theorem dX6_goesDown_163 : decode cX6_goesDown 163 = .ok (.goto 47, 3) := by decide +kernel
theorem dX6_goesDown_166 : decode cX6_goesDown 166 = .ok (.iload_n 3, 1) := by decide +kernel
theorem dX6_goesDown_167 : decode cX6_goesDown 167 = .ok (.bipush 60, 2) := by decide +kernel
theorem dX6_goesDown_169 : decode cX6_goesDown 169 = .ok (.if_icmp .ne 37, 3) := by decide +kernel
theorem dX6_goesDown_172 : decode cX6_goesDown 172 = .ok (.aload_n 0, 1) := by decide +kernel
theorem dX6_goesDown_173 : decode cX6_goesDown 173 = .ok (.getfield 145, 3) := by decide +kernel
theorem dX6_goesDown_176 : decode cX6_goesDown 176 = .ok (.bipush 6, 2) := by decide +kernel
theorem dX6_goesDown_178 : decode cX6_goesDown 178 = .ok (.if_icmp .eq 28, 3) := by decide +kernel
theorem dX6_goesDown_181 : decode cX6_goesDown 181 = .ok (.aload_n 0, 1) := by decide +kernel
theorem dX6_goesDown_182 : decode cX6_goesDown 182 = .ok (.iconst 5, 1) := by decide +kernel
theorem dX6_goesDown_183 : decode cX6_goesDown 183 = .ok (.putfield 145, 3) := by decide +kernel
theorem dX6_goesDown_186 : decode cX6_goesDown 186 = .ok (.aload_n 0, 1) := by decide +kernel
theorem dX6_goesDown_187 : decode cX6_goesDown 187 = .ok (.dup, 1) := by decide +kernel
theorem dX6_goesDown_188 : decode cX6_goesDown 188 = .ok (.getfield 157, 3) := by decide +kernel
theorem dX6_goesDown_191 : decode cX6_goesDown 191 = .ok (.iconst 1, 1) := by decide +kernel
theorem dX6_goesDown_192 : decode cX6_goesDown 192 = .ok (.iadd, 1) := by decide +kernel
theorem dX6_goesDown_193 : decode cX6_goesDown 193 = .ok (.putfield 157, 3) := by decide +kernel
theorem dX6_goesDown_196 : decode cX6_goesDown 196 = .ok (.aload_n 0, 1) := by decide +kernel
theorem dX6_goesDown_197 : decode cX6_goesDown 197 = .ok (.dup, 1) := by decide +kernel
theorem dX6_goesDown_198 : decode cX6_goesDown 198 = .ok (.getfield 163, 3) := by decide +kernel
theorem dX6_goesDown_201 : decode cX6_goesDown 201 = .ok (.iconst 1, 1) := by decide +kernel
theorem dX6_goesDown_202 : decode cX6_goesDown 202 = .ok (.iadd, 1) := by decide +kernel
theorem dX6_goesDown_203 : decode cX6_goesDown 203 = .ok (.putfield 163, 3) := by decide +kernel
theorem dX6_goesDown_206 : decode cX6_goesDown 206 = .ok (.aload_n 0, 1) := by decide +kernel
theorem dX6_goesDown_207 : decode cX6_goesDown 207 = .ok (.invokevirtual 213, 3) := by decide +kernel
theorem dX6_goesDown_210 : decode cX6_goesDown 210 = .ok (.return_, 1) := by decide +kernel
theorem dX6_endsAt_0 : decode cX6_endsAt 0 = .ok (.aload_n 0, 1) := by decide +kernel
theorem dX6_endsAt_1 : decode cX6_endsAt 1 = .ok (.getfield 34, 3) := by decide +kernel
theorem dX6_endsAt_4 : decode cX6_endsAt 4 = .ok (.aload_n 0, 1) := by decide +kernel
theorem dX6_endsAt_5 : decode cX6_endsAt 5 = .ok (.getfield 166, 3) := by decide +kernel
theorem dX6_endsAt_8 : decode cX6_endsAt 8 = .ok (.iconst 1, 1) := by decide +kernel
theorem dX6_endsAt_9 : decode cX6_endsAt 9 = .ok (.isub, 1) := by decide +kernel
theorem dX6_endsAt_10 : decode cX6_endsAt 10 = .ok (.iaload, 1) := by decide +kernel
theorem dX6_endsAt_11 : decode cX6_endsAt 11 = .ok (.istore_n 2, 1) := by decide +kernel
theorem dX6_endsAt_12 : decode cX6_endsAt 12 = .ok (.iload_n 1, 1) := by decide +kernel
theorem dX6_endsAt_13 : decode cX6_endsAt 13 = .ok (.bipush 59, 2) := by decide +kernel
theorem dX6_endsAt_15 : decode cX6_endsAt 15 = .ok (.if_icmp .ne 49, 3) := by decide +kernel
theorem dX6_endsAt_18 : decode cX6_endsAt 18 = .ok (.aload_n 0, 1) := by decide +kernel
theorem dX6_endsAt_19 : decode cX6_endsAt 19 = .ok (.getfield 40, 3) := by decide +kernel
theorem dX6_endsAt_22 : decode cX6_endsAt 22 = .ok (.aload_n 0, 1) := by decide +kernel
theorem dX6_endsAt_23 : decode cX6_endsAt 23 = .ok (.getfield 166, 3) := by decide +kernel
theorem dX6_endsAt_26 : decode cX6_endsAt 26 = .ok (.iconst 1, 1) := by decide +kernel
theorem dX6_endsAt_27 : decode cX6_endsAt 27 = .ok (.isub, 1) := by decide +kernel
theorem dX6_endsAt_28 : decode cX6_endsAt 28 = .ok (.iaload, 1) := by decide +kernel
theorem dX6_endsAt_29 : decode cX6_endsAt 29 = .ok (.iconst 1, 1) := by decide +kernel
theorem dX6_endsAt_30 : decode cX6_endsAt 30 = .ok (.if_icmp .le 34, 3) := by decide +kernel
theorem dX6_endsAt_33 : decode cX6_endsAt 33 = .ok (.aload_n 0, 1) := by decide +kernel
theorem dX6_endsAt_34 : decode cX6_endsAt 34 = .ok (.getfield 40, 3) := by decide +kernel
theorem dX6_endsAt_37 : decode cX6_endsAt 37 = .ok (.aload_n 0, 1) := by decide +kernel
theorem dX6_endsAt_38 : decode cX6_endsAt 38 = .ok (.getfield 166, 3) := by decide +kernel
theorem dX6_endsAt_41 : decode cX6_endsAt 41 = .ok (.iconst 1, 1) := by decide +kernel
theorem dX6_endsAt_42 : decode cX6_endsAt 42 = .ok (.isub, 1) := by decide +kernel
theorem dX6_endsAt_43 : decode cX6_endsAt 43 = .ok (.dup2, 1) := by decide +kernel
theorem dX6_endsAt_44 : decode cX6_endsAt 44 = .ok (.iaload, 1) := by decide +kernel
theorem dX6_endsAt_45 : decode cX6_endsAt 45 = .ok (.iconst 1, 1) := by decide +kernel
theorem dX6_endsAt_46 : decode cX6_endsAt 46 = .ok (.isub, 1) := by decide +kernel
theorem dX6_endsAt_47 : decode cX6_endsAt 47 = .ok (.iastore, 1) := by decide +kernel
theorem dX6_endsAt_48 : decode cX6_endsAt 48 = .ok (.aload_n 0, 1) := by decide +kernel
theorem dX6_endsAt_49 : decode cX6_endsAt 49 = .ok (.iload_n 2, 1) := by decide +kernel
theorem dX6_endsAt_50 : decode cX6_endsAt 50 = .ok (.iconst 1, 1) := by decide +kernel
theorem dX6_endsAt_51 : decode cX6_endsAt 51 = .ok (.iadd, 1) := by decide +kernel
theorem dX6_endsAt_52 : decode cX6_endsAt 52 = .ok (.putfield 113, 3) := by decide +kernel
theorem dX6_endsAt_55 : decode cX6_endsAt 55 = .ok (.aload_n 0, 1) := by decide +kernel
theorem dX6_endsAt_56 : decode cX6_endsAt 56 = .ok (.bipush 58, 2) := by decide +kernel
theorem dX6_endsAt_58 : decode cX6_endsAt 58 = .ok (.invokevirtual 195, 3) := by decide +kernel
theorem dX6_endsAt_61 : decode cX6_endsAt 61 = .ok (.goto 19, 3) := by decide +kernel
theorem dX6_endsAt_64 : decode cX6_endsAt 64 = .ok (.aload_n 0, 1) := by decide +kernel
theorem dX6_endsAt_65 : decode cX6_endsAt 65 = .ok (.aload_n 0, 1) := by decide +kernel
theorem dX6_endsAt_66 : decode cX6_endsAt 66 = .ok (.getfield 22, 3) := by decide +kernel
theorem dX6_endsAt_69 : decode cX6_endsAt 69 = .ok (.iload_n 2, 1) := by decide +kernel
theorem dX6_endsAt_70 : decode cX6_endsAt 70 = .ok (.iaload, 1) := by decide +kernel
theorem dX6_endsAt_71 : decode cX6_endsAt 71 = .ok (.iconst 1, 1) := by decide +kernel
theorem dX6_endsAt_72 : decode cX6_endsAt 72 = .ok (.iadd, 1) := by decide +kernel
theorem dX6_endsAt_73 : decode cX6_endsAt 73 = .ok (.putfield 113, 3) := by decide +kernel
theorem dX6_endsAt_76 : decode cX6_endsAt 76 = .ok (.aload_n 0, 1) := by decide +kernel
theorem dX6_endsAt_77 : decode cX6_endsAt 77 = .ok (.invokevirtual 213, 3) := by decide +kernel
theorem dX6_endsAt_80 : decode cX6_endsAt 80 = .ok (.return_, 1) := by decide +kernel
theorem dX6_round_0 : decode cX6_round 0 = .ok (.aload_n 0, 1) := by decide +kernel
theorem dX6_round_1 : decode cX6_round 1 = .ok (.iconst 0, 1) := by decide +kernel
theorem dX6_round_2 : decode cX6_round 2 = .ok (.putfield 142, 3) := by decide +kernel
theorem dX6_round_5 : decode cX6_round 5 = .ok (.aload_n 0, 1) := by decide +kernel
theorem dX6_round_6 : decode cX6_round 6 = .ok (.iconst 0, 1) := by decide +kernel
theorem dX6_round_7 : decode cX6_round 7 = .ok (.putfield 192, 3) := by decide +kernel
theorem dX6_round_10 : decode cX6_round 10 = .ok (.aload_n 0, 1) := by decide +kernel
theorem dX6_round_11 : decode cX6_round 11 = .ok (.iconst 0, 1) := by decide +kernel
theorem dX6_round_12 : decode cX6_round 12 = .ok (.putfield 186, 3) := by decide +kernel
theorem dX6_round_15 : decode cX6_round 15 = .ok (.aload_n 0, 1) := by decide +kernel
theorem dX6_round_16 : decode cX6_round 16 = .ok (.iconst 0, 1) := by decide +kernel
theorem dX6_round_17 : decode cX6_round 17 = .ok (.putfield 163, 3) := by decide +kernel
theorem dX6_round_20 : decode cX6_round 20 = .ok (.aload_n 0, 1) := by decide +kernel
theorem dX6_round_21 : decode cX6_round 21 = .ok (.iconst 0, 1) := by decide +kernel
theorem dX6_round_22 : decode cX6_round 22 = .ok (.putfield 145, 3) := by decide +kernel
theorem dX6_round_25 : decode cX6_round 25 = .ok (.aload_n 0, 1) := by decide +kernel
theorem dX6_round_26 : decode cX6_round 26 = .ok (.iconst (-1), 1) := by decide +kernel
theorem dX6_round_27 : decode cX6_round 27 = .ok (.putfield 151, 3) := by decide +kernel
theorem dX6_round_30 : decode cX6_round 30 = .ok (.aload_n 0, 1) := by decide +kernel
theorem dX6_round_31 : decode cX6_round 31 = .ok (.iconst 0, 1) := by decide +kernel
theorem dX6_round_32 : decode cX6_round 32 = .ok (.putfield 166, 3) := by decide +kernel
theorem dX6_round_35 : decode cX6_round 35 = .ok (.aload_n 0, 1) := by decide +kernel
theorem dX6_round_36 : decode cX6_round 36 = .ok (.iconst (-1), 1) := by decide +kernel
theorem dX6_round_37 : decode cX6_round 37 = .ok (.putfield 148, 3) := by decide +kernel
theorem dX6_round_40 : decode cX6_round 40 = .ok (.aload_n 0, 1) := by decide +kernel
theorem dX6_round_41 : decode cX6_round 41 = .ok (.iconst 0, 1) := by decide +kernel
theorem dX6_round_42 : decode cX6_round 42 = .ok (.putfield 169, 3) := by decide +kernel
theorem dX6_round_45 : decode cX6_round 45 = .ok (.aload_n 0, 1) := by decide +kernel
theorem dX6_round_46 : decode cX6_round 46 = .ok (.iconst 0, 1) := by decide +kernel
theorem dX6_round_47 : decode cX6_round 47 = .ok (.putfield 113, 3) := by decide +kernel
theorem dX6_round_50 : decode cX6_round 50 = .ok (.aload_n 0, 1) := by decide +kernel
theorem dX6_round_51 : decode cX6_round 51 = .ok (.invokevirtual 116, 3) := by decide +kernel
theorem dX6_round_54 : decode cX6_round 54 = .ok (.aload_n 0, 1) := by decide +kernel
theorem dX6_round_55 : decode cX6_round 55 = .ok (.getfield 145, 3) := by decide +kernel
theorem dX6_round_58 : decode cX6_round 58 = .ok (.ifCond .ne 17, 3) := by decide +kernel
theorem dX6_round_61 : decode cX6_round 61 = .ok (.aload_n 0, 1) := by decide +kernel
theorem dX6_round_62 : decode cX6_round 62 = .ok (.getfield 113, 3) := by decide +kernel
theorem dX6_round_65 : decode cX6_round 65 = .ok (.aload_n 0, 1) := by decide +kernel
theorem dX6_round_66 : decode cX6_round 66 = .ok (.getfield 107, 3) := by decide +kernel
theorem dX6_round_69 : decode cX6_round 69 = .ok (.if_icmp .ge 96, 3) := by decide +kernel
theorem dX6_round_72 : decode cX6_round 72 = .ok (.goto 10, 3) := by decide +kernel
theorem dX6_round_75 : decode cX6_round 75 = .ok (.aload_n 0, 1) := by decide +kernel
theorem dX6_round_76 : decode cX6_round 76 = .ok (.getfield 166, 3) := by decide +kernel
theorem dX6_round_79 : decode cX6_round 79 = .ok (.ifCond .le 86, 3) := by decide +kernel
theorem dX6_round_82 : decode cX6_round 82 = .ok (.aload_n 0, 1) := by decide +kernel
theorem dX6_round_83 : decode cX6_round 83 = .ok (.getfield 145, 3) := by decide +kernel
theorem dX6_round_86 : decode cX6_round 86 = .ok (.ifCond .eq 10, 3) := by decide +kernel
theorem dX6_round_89 : decode cX6_round 89 = .ok (.aload_n 0, 1) := by decide +kernel
theorem dX6_round_90 : decode cX6_round 90 = .ok (.invokevirtual 216, 3) := by decide +kernel
theorem dX6_round_93 : decode cX6_round 93 = .ok (.goto 65, 3) := by decide +kernel
theorem dX6_round_96 : decode cX6_round 96 = .ok (.aload_n 0, 1) := by decide +kernel
theorem dX6_round_97 : decode cX6_round 97 = .ok (.getfield 19, 3) := by decide +kernel
theorem dX6_round_100 : decode cX6_round 100 = .ok (.aload_n 0, 1) := by decide +kernel
theorem dX6_round_101 : decode cX6_round 101 = .ok (.getfield 113, 3) := by decide +kernel
theorem dX6_round_104 : decode cX6_round 104 = .ok (.iaload, 1) := by decide +kernel
theorem dX6_round_105 : decode cX6_round 105 = .ok (.istore_n 1, 1) := by decide +kernel
theorem dX6_round_106 : decode cX6_round 106 = .ok (.iload_n 1, 1) := by decide +kernel
theorem dX6_round_107 : decode cX6_round 107 = .ok (.bipush 47, 2) := by decide +kernel
theorem dX6_round_109 : decode cX6_round 109 = .ok (.if_icmp .eq 33, 3) := by decide +kernel
theorem dX6_round_112 : decode cX6_round 112 = .ok (.iload_n 1, 1) := by decide +kernel
theorem dX6_round_113 : decode cX6_round 113 = .ok (.bipush 125, 2) := by decide +kernel
theorem dX6_round_115 : decode cX6_round 115 = .ok (.if_icmp .eq 27, 3) := by decide +kernel
theorem dX6_round_118 : decode cX6_round 118 = .ok (.iload_n 1, 1) := by decide +kernel
theorem dX6_round_119 : decode cX6_round 119 = .ok (.bipush 41, 2) := by decide +kernel
theorem dX6_round_121 : decode cX6_round 121 = .ok (.if_icmp .eq 21, 3) := by decide +kernel
theorem dX6_round_124 : decode cX6_round 124 = .ok (.iload_n 1, 1) := by decide +kernel
theorem dX6_round_125 : decode cX6_round 125 = .ok (.bipush 93, 2) := by decide +kernel
theorem dX6_round_127 : decode cX6_round 127 = .ok (.if_icmp .eq 15, 3) := by decide +kernel
theorem dX6_round_130 : decode cX6_round 130 = .ok (.iload_n 1, 1) := by decide +kernel
theorem dX6_round_131 : decode cX6_round 131 = .ok (.bipush 62, 2) := by decide +kernel
theorem dX6_round_133 : decode cX6_round 133 = .ok (.if_icmp .eq 9, 3) := by decide +kernel
theorem dX6_round_136 : decode cX6_round 136 = .ok (.iload_n 1, 1) := by decide +kernel
theorem dX6_round_137 : decode cX6_round 137 = .ok (.bipush 59, 2) := by decide +kernel
theorem dX6_round_139 : decode cX6_round 139 = .ok (.if_icmp .ne 11, 3) := by decide +kernel
theorem dX6_round_142 : decode cX6_round 142 = .ok (.aload_n 0, 1) := by decide +kernel
theorem dX6_round_143 : decode cX6_round 143 = .ok (.iload_n 1, 1) := by decide +kernel
theorem dX6_round_144 : decode cX6_round 144 = .ok (.invokevirtual 219, 3) := by decide +kernel
theorem dX6_round_147 : decode cX6_round 147 = .ok (.goto 11, 3) := by decide +kernel
theorem dX6_round_150 : decode cX6_round 150 = .ok (.aload_n 0, 1) := by decide +kernel
theorem dX6_round_151 : decode cX6_round 151 = .ok (.aload_n 0, 1) := by decide +kernel
theorem dX6_round_152 : decode cX6_round 152 = .ok (.getfield 113, 3) := by decide +kernel
theorem dX6_round_155 : decode cX6_round 155 = .ok (.invokevirtual 222, 3) := by decide +kernel
theorem dX6_round_158 : decode cX6_round 158 = .ok (.aload_n 0, 1) := by decide +kernel
theorem dX6_round_159 : decode cX6_round 159 = .ok (.invokevirtual 116, 3) := by decide +kernel
theorem dX6_round_162 : decode cX6_round 162 = .ok (.goto (-108), 3) := by decide +kernel
theorem dX6_round_165 : decode cX6_round 165 = .ok (.aload_n 0, 1) := by decide +kernel
theorem dX6_round_166 : decode cX6_round 166 = .ok (.getfield 145, 3) := by decide +kernel
theorem dX6_round_169 : decode cX6_round 169 = .ok (.ireturn, 1) := by decide +kernel
theorem dX6_keepsWas_0 : decode cX6_keepsWas 0 = .ok (.aload_n 0, 1) := by decide +kernel
theorem dX6_keepsWas_1 : decode cX6_keepsWas 1 = .ok (.iconst 1, 1) := by decide +kernel
theorem dX6_keepsWas_2 : decode cX6_keepsWas 2 = .ok (.putfield 225, 3) := by decide +kernel
theorem dX6_keepsWas_5 : decode cX6_keepsWas 5 = .ok (.aload_n 0, 1) := by decide +kernel
theorem dX6_keepsWas_6 : decode cX6_keepsWas 6 = .ok (.getfield 47, 3) := by decide +kernel
theorem dX6_keepsWas_9 : decode cX6_keepsWas 9 = .ok (.iconst 0, 1) := by decide +kernel
theorem dX6_keepsWas_10 : decode cX6_keepsWas 10 = .ok (.iload_n 1, 1) := by decide +kernel
theorem dX6_keepsWas_11 : decode cX6_keepsWas 11 = .ok (.iastore, 1) := by decide +kernel
theorem dX6_keepsWas_12 : decode cX6_keepsWas 12 = .ok (.aload_n 0, 1) := by decide +kernel
theorem dX6_keepsWas_13 : decode cX6_keepsWas 13 = .ok (.getfield 47, 3) := by decide +kernel
theorem dX6_keepsWas_16 : decode cX6_keepsWas 16 = .ok (.iconst 1, 1) := by decide +kernel
theorem dX6_keepsWas_17 : decode cX6_keepsWas 17 = .ok (.iload_n 1, 1) := by decide +kernel
theorem dX6_keepsWas_18 : decode cX6_keepsWas 18 = .ok (.ifCond .ne 7, 3) := by decide +kernel
theorem dX6_keepsWas_21 : decode cX6_keepsWas 21 = .ok (.iconst (-1), 1) := by decide +kernel
theorem dX6_keepsWas_22 : decode cX6_keepsWas 22 = .ok (.goto 7, 3) := by decide +kernel
theorem dX6_keepsWas_25 : decode cX6_keepsWas 25 = .ok (.aload_n 0, 1) := by decide +kernel
theorem dX6_keepsWas_26 : decode cX6_keepsWas 26 = .ok (.getfield 151, 3) := by decide +kernel
theorem dX6_keepsWas_29 : decode cX6_keepsWas 29 = .ok (.iastore, 1) := by decide +kernel
theorem dX6_keepsWas_30 : decode cX6_keepsWas 30 = .ok (.aload_n 0, 1) := by decide +kernel
theorem dX6_keepsWas_31 : decode cX6_keepsWas 31 = .ok (.getfield 47, 3) := by decide +kernel
theorem dX6_keepsWas_34 : decode cX6_keepsWas 34 = .ok (.iconst 2, 1) := by decide +kernel
theorem dX6_keepsWas_35 : decode cX6_keepsWas 35 = .ok (.iload_n 1, 1) := by decide +kernel
theorem dX6_keepsWas_36 : decode cX6_keepsWas 36 = .ok (.iconst 4, 1) := by decide +kernel
theorem dX6_keepsWas_37 : decode cX6_keepsWas 37 = .ok (.if_icmp .ne 10, 3) := by decide +kernel
theorem dX6_keepsWas_40 : decode cX6_keepsWas 40 = .ok (.aload_n 0, 1) := by decide +kernel
theorem dX6_keepsWas_41 : decode cX6_keepsWas 41 = .ok (.getfield 154, 3) := by decide +kernel
theorem dX6_keepsWas_44 : decode cX6_keepsWas 44 = .ok (.goto 4, 3) := by decide +kernel
theorem dX6_keepsWas_47 : decode cX6_keepsWas 47 = .ok (.iconst (-1), 1) := by decide +kernel
theorem dX6_keepsWas_48 : decode cX6_keepsWas 48 = .ok (.iastore, 1) := by decide +kernel
theorem dX6_keepsWas_49 : decode cX6_keepsWas 49 = .ok (.aload_n 0, 1) := by decide +kernel
theorem dX6_keepsWas_50 : decode cX6_keepsWas 50 = .ok (.getfield 47, 3) := by decide +kernel
theorem dX6_keepsWas_53 : decode cX6_keepsWas 53 = .ok (.iconst 3, 1) := by decide +kernel
theorem dX6_keepsWas_54 : decode cX6_keepsWas 54 = .ok (.iload_n 1, 1) := by decide +kernel
theorem dX6_keepsWas_55 : decode cX6_keepsWas 55 = .ok (.iconst 5, 1) := by decide +kernel
theorem dX6_keepsWas_56 : decode cX6_keepsWas 56 = .ok (.if_icmp .ne 10, 3) := by decide +kernel
theorem dX6_keepsWas_59 : decode cX6_keepsWas 59 = .ok (.aload_n 0, 1) := by decide +kernel
theorem dX6_keepsWas_60 : decode cX6_keepsWas 60 = .ok (.getfield 157, 3) := by decide +kernel
theorem dX6_keepsWas_63 : decode cX6_keepsWas 63 = .ok (.goto 4, 3) := by decide +kernel
theorem dX6_keepsWas_66 : decode cX6_keepsWas 66 = .ok (.iconst 0, 1) := by decide +kernel
theorem dX6_keepsWas_67 : decode cX6_keepsWas 67 = .ok (.iastore, 1) := by decide +kernel
theorem dX6_keepsWas_68 : decode cX6_keepsWas 68 = .ok (.aload_n 0, 1) := by decide +kernel
theorem dX6_keepsWas_69 : decode cX6_keepsWas 69 = .ok (.getfield 47, 3) := by decide +kernel
theorem dX6_keepsWas_72 : decode cX6_keepsWas 72 = .ok (.iconst 4, 1) := by decide +kernel
theorem dX6_keepsWas_73 : decode cX6_keepsWas 73 = .ok (.aload_n 0, 1) := by decide +kernel
theorem dX6_keepsWas_74 : decode cX6_keepsWas 74 = .ok (.getfield 192, 3) := by decide +kernel
theorem dX6_keepsWas_77 : decode cX6_keepsWas 77 = .ok (.iastore, 1) := by decide +kernel
theorem dX6_keepsWas_78 : decode cX6_keepsWas 78 = .ok (.aload_n 0, 1) := by decide +kernel
theorem dX6_keepsWas_79 : decode cX6_keepsWas 79 = .ok (.getfield 47, 3) := by decide +kernel
theorem dX6_keepsWas_82 : decode cX6_keepsWas 82 = .ok (.iconst 5, 1) := by decide +kernel
theorem dX6_keepsWas_83 : decode cX6_keepsWas 83 = .ok (.aload_n 0, 1) := by decide +kernel
theorem dX6_keepsWas_84 : decode cX6_keepsWas 84 = .ok (.getfield 7, 3) := by decide +kernel
theorem dX6_keepsWas_87 : decode cX6_keepsWas 87 = .ok (.bipush 57, 2) := by decide +kernel
theorem dX6_keepsWas_89 : decode cX6_keepsWas 89 = .ok (.iaload, 1) := by decide +kernel
theorem dX6_keepsWas_90 : decode cX6_keepsWas 90 = .ok (.iastore, 1) := by decide +kernel
theorem dX6_keepsWas_91 : decode cX6_keepsWas 91 = .ok (.aload_n 0, 1) := by decide +kernel
theorem dX6_keepsWas_92 : decode cX6_keepsWas 92 = .ok (.getfield 47, 3) := by decide +kernel
theorem dX6_keepsWas_95 : decode cX6_keepsWas 95 = .ok (.bipush 6, 2) := by decide +kernel
theorem dX6_keepsWas_97 : decode cX6_keepsWas 97 = .ok (.aload_n 0, 1) := by decide +kernel
theorem dX6_keepsWas_98 : decode cX6_keepsWas 98 = .ok (.getfield 186, 3) := by decide +kernel
theorem dX6_keepsWas_101 : decode cX6_keepsWas 101 = .ok (.iastore, 1) := by decide +kernel
theorem dX6_keepsWas_102 : decode cX6_keepsWas 102 = .ok (.aload_n 0, 1) := by decide +kernel
theorem dX6_keepsWas_103 : decode cX6_keepsWas 103 = .ok (.getfield 47, 3) := by decide +kernel
theorem dX6_keepsWas_106 : decode cX6_keepsWas 106 = .ok (.bipush 7, 2) := by decide +kernel
theorem dX6_keepsWas_108 : decode cX6_keepsWas 108 = .ok (.aload_n 0, 1) := by decide +kernel
theorem dX6_keepsWas_109 : decode cX6_keepsWas 109 = .ok (.getfield 163, 3) := by decide +kernel
theorem dX6_keepsWas_112 : decode cX6_keepsWas 112 = .ok (.iastore, 1) := by decide +kernel
theorem dX6_keepsWas_113 : decode cX6_keepsWas 113 = .ok (.aload_n 0, 1) := by decide +kernel
theorem dX6_keepsWas_114 : decode cX6_keepsWas 114 = .ok (.iload_n 1, 1) := by decide +kernel
theorem dX6_keepsWas_115 : decode cX6_keepsWas 115 = .ok (.iconst 5, 1) := by decide +kernel
theorem dX6_keepsWas_116 : decode cX6_keepsWas 116 = .ok (.if_icmp .ne 10, 3) := by decide +kernel
theorem dX6_keepsWas_119 : decode cX6_keepsWas 119 = .ok (.aload_n 0, 1) := by decide +kernel
theorem dX6_keepsWas_120 : decode cX6_keepsWas 120 = .ok (.getfield 160, 3) := by decide +kernel
theorem dX6_keepsWas_123 : decode cX6_keepsWas 123 = .ok (.goto 4, 3) := by decide +kernel
theorem dX6_keepsWas_126 : decode cX6_keepsWas 126 = .ok (.iconst (-1), 1) := by decide +kernel
theorem dX6_keepsWas_127 : decode cX6_keepsWas 127 = .ok (.putfield 50, 3) := by decide +kernel
theorem dX6_keepsWas_130 : decode cX6_keepsWas 130 = .ok (.iconst 0, 1) := by decide +kernel
theorem dX6_keepsWas_131 : decode cX6_keepsWas 131 = .ok (.istore_n 2, 1) := by decide +kernel
theorem dX6_keepsWas_132 : decode cX6_keepsWas 132 = .ok (.iload_n 2, 1) := by decide +kernel
theorem dX6_keepsWas_133 : decode cX6_keepsWas 133 = .ok (.aload_n 0, 1) := by decide +kernel
theorem dX6_keepsWas_134 : decode cX6_keepsWas 134 = .ok (.getfield 142, 3) := by decide +kernel
theorem dX6_keepsWas_137 : decode cX6_keepsWas 137 = .ok (.if_icmp .ge 21, 3) := by decide +kernel
theorem dX6_keepsWas_140 : decode cX6_keepsWas 140 = .ok (.aload_n 0, 1) := by decide +kernel
theorem dX6_keepsWas_141 : decode cX6_keepsWas 141 = .ok (.getfield 54, 3) := by decide +kernel
theorem dX6_keepsWas_144 : decode cX6_keepsWas 144 = .ok (.iload_n 2, 1) := by decide +kernel
theorem dX6_keepsWas_145 : decode cX6_keepsWas 145 = .ok (.aload_n 0, 1) := by decide +kernel
theorem dX6_keepsWas_146 : decode cX6_keepsWas 146 = .ok (.getfield 31, 3) := by decide +kernel
theorem dX6_keepsWas_149 : decode cX6_keepsWas 149 = .ok (.iload_n 2, 1) := by decide +kernel
theorem dX6_keepsWas_150 : decode cX6_keepsWas 150 = .ok (.iaload, 1) := by decide +kernel
theorem dX6_keepsWas_151 : decode cX6_keepsWas 151 = .ok (.iastore, 1) := by decide +kernel
theorem dX6_keepsWas_152 : decode cX6_keepsWas 152 = .ok (.iinc 2 1, 3) := by decide +kernel
theorem dX6_keepsWas_155 : decode cX6_keepsWas 155 = .ok (.goto (-23), 3) := by decide +kernel
theorem dX6_keepsWas_158 : decode cX6_keepsWas 158 = .ok (.aload_n 0, 1) := by decide +kernel
theorem dX6_keepsWas_159 : decode cX6_keepsWas 159 = .ok (.aload_n 0, 1) := by decide +kernel
theorem dX6_keepsWas_160 : decode cX6_keepsWas 160 = .ok (.getfield 142, 3) := by decide +kernel
theorem dX6_keepsWas_163 : decode cX6_keepsWas 163 = .ok (.putfield 229, 3) := by decide +kernel
theorem dX6_keepsWas_166 : decode cX6_keepsWas 166 = .ok (.return_, 1) := by decide +kernel
theorem dX6_keep_0 : decode cX6_keep 0 = .ok (.iconst 0, 1) := by decide +kernel
theorem dX6_keep_1 : decode cX6_keep 1 = .ok (.istore_n 1, 1) := by decide +kernel
theorem dX6_keep_2 : decode cX6_keep 2 = .ok (.iload_n 1, 1) := by decide +kernel
theorem dX6_keep_3 : decode cX6_keep 3 = .ok (.bipush 58, 2) := by decide +kernel
theorem dX6_keep_5 : decode cX6_keep 5 = .ok (.if_icmp .ge 21, 3) := by decide +kernel
theorem dX6_keep_8 : decode cX6_keep 8 = .ok (.aload_n 0, 1) := by decide +kernel
theorem dX6_keep_9 : decode cX6_keep 9 = .ok (.getfield 57, 3) := by decide +kernel
theorem dX6_keep_12 : decode cX6_keep 12 = .ok (.iload_n 1, 1) := by decide +kernel
theorem dX6_keep_13 : decode cX6_keep 13 = .ok (.aload_n 0, 1) := by decide +kernel
theorem dX6_keep_14 : decode cX6_keep 14 = .ok (.getfield 7, 3) := by decide +kernel
theorem dX6_keep_17 : decode cX6_keep 17 = .ok (.iload_n 1, 1) := by decide +kernel
theorem dX6_keep_18 : decode cX6_keep 18 = .ok (.iaload, 1) := by decide +kernel
theorem dX6_keep_19 : decode cX6_keep 19 = .ok (.iastore, 1) := by decide +kernel
theorem dX6_keep_20 : decode cX6_keep 20 = .ok (.iinc 1 1, 3) := by decide +kernel
theorem dX6_keep_23 : decode cX6_keep 23 = .ok (.goto (-21), 3) := by decide +kernel
theorem dX6_keep_26 : decode cX6_keep 26 = .ok (.return_, 1) := by decide +kernel
theorem dX6_bring_0 : decode cX6_bring 0 = .ok (.iconst 0, 1) := by decide +kernel
theorem dX6_bring_1 : decode cX6_bring 1 = .ok (.istore_n 1, 1) := by decide +kernel
theorem dX6_bring_2 : decode cX6_bring 2 = .ok (.iload_n 1, 1) := by decide +kernel
theorem dX6_bring_3 : decode cX6_bring 3 = .ok (.bipush 58, 2) := by decide +kernel
theorem dX6_bring_5 : decode cX6_bring 5 = .ok (.if_icmp .ge 21, 3) := by decide +kernel
theorem dX6_bring_8 : decode cX6_bring 8 = .ok (.aload_n 0, 1) := by decide +kernel
theorem dX6_bring_9 : decode cX6_bring 9 = .ok (.getfield 7, 3) := by decide +kernel
end
section
theorem dX6_bring_12 : decode cX6_bring 12 = .ok (.iload_n 1, 1) := by decide +kernel
theorem dX6_bring_13 : decode cX6_bring 13 = .ok (.aload_n 0, 1) := by decide +kernel
theorem dX6_bring_14 : decode cX6_bring 14 = .ok (.getfield 57, 3) := by decide +kernel
theorem dX6_bring_17 : decode cX6_bring 17 = .ok (.iload_n 1, 1) := by decide +kernel
theorem dX6_bring_18 : decode cX6_bring 18 = .ok (.iaload, 1) := by decide +kernel
theorem dX6_bring_19 : decode cX6_bring 19 = .ok (.iastore, 1) := by decide +kernel
theorem dX6_bring_20 : decode cX6_bring 20 = .ok (.iinc 1 1, 3) := by decide +kernel
theorem dX6_bring_23 : decode cX6_bring 23 = .ok (.goto (-21), 3) := by decide +kernel
theorem dX6_bring_26 : decode cX6_bring 26 = .ok (.return_, 1) := by decide +kernel
theorem dX6_goes_0 : decode cX6_goes 0 = .ok (.aload_n 0, 1) := by decide +kernel
theorem dX6_goes_1 : decode cX6_goes 1 = .ok (.invokevirtual 232, 3) := by decide +kernel
theorem dX6_goes_4 : decode cX6_goes 4 = .ok (.istore_n 1, 1) := by decide +kernel
theorem dX6_goes_5 : decode cX6_goes 5 = .ok (.iload_n 1, 1) := by decide +kernel
theorem dX6_goes_6 : decode cX6_goes 6 = .ok (.iconst (-1), 1) := by decide +kernel
theorem dX6_goes_7 : decode cX6_goes 7 = .ok (.if_icmp .eq 8, 3) := by decide +kernel
theorem dX6_goes_10 : decode cX6_goes 10 = .ok (.bipush (-10), 2) := by decide +kernel
theorem dX6_goes_12 : decode cX6_goes 12 = .ok (.iload_n 1, 1) := by decide +kernel
theorem dX6_goes_13 : decode cX6_goes 13 = .ok (.isub, 1) := by decide +kernel
theorem dX6_goes_14 : decode cX6_goes 14 = .ok (.ireturn, 1) := by decide +kernel
theorem dX6_goes_15 : decode cX6_goes 15 = .ok (.aload_n 0, 1) := by decide +kernel
theorem dX6_goes_16 : decode cX6_goes 16 = .ok (.invokevirtual 86, 3) := by decide +kernel
theorem dX6_goes_19 : decode cX6_goes 19 = .ok (.aload_n 0, 1) := by decide +kernel
theorem dX6_goes_20 : decode cX6_goes 20 = .ok (.invokevirtual 235, 3) := by decide +kernel
theorem dX6_goes_23 : decode cX6_goes 23 = .ok (.istore_n 2, 1) := by decide +kernel
theorem dX6_goes_24 : decode cX6_goes 24 = .ok (.aload_n 0, 1) := by decide +kernel
theorem dX6_goes_25 : decode cX6_goes 25 = .ok (.iload_n 2, 1) := by decide +kernel
theorem dX6_goes_26 : decode cX6_goes 26 = .ok (.invokevirtual 238, 3) := by decide +kernel
theorem dX6_goes_29 : decode cX6_goes 29 = .ok (.iload_n 2, 1) := by decide +kernel
theorem dX6_goes_30 : decode cX6_goes 30 = .ok (.ireturn, 1) := by decide +kernel
theorem dX6_tries_0 : decode cX6_tries 0 = .ok (.aload_n 0, 1) := by decide +kernel
theorem dX6_tries_1 : decode cX6_tries 1 = .ok (.invokevirtual 232, 3) := by decide +kernel
theorem dX6_tries_4 : decode cX6_tries 4 = .ok (.istore_n 1, 1) := by decide +kernel
theorem dX6_tries_5 : decode cX6_tries 5 = .ok (.iload_n 1, 1) := by decide +kernel
theorem dX6_tries_6 : decode cX6_tries 6 = .ok (.iconst (-1), 1) := by decide +kernel
theorem dX6_tries_7 : decode cX6_tries 7 = .ok (.if_icmp .eq 8, 3) := by decide +kernel
theorem dX6_tries_10 : decode cX6_tries 10 = .ok (.bipush (-10), 2) := by decide +kernel
theorem dX6_tries_12 : decode cX6_tries 12 = .ok (.iload_n 1, 1) := by decide +kernel
theorem dX6_tries_13 : decode cX6_tries 13 = .ok (.isub, 1) := by decide +kernel
theorem dX6_tries_14 : decode cX6_tries 14 = .ok (.ireturn, 1) := by decide +kernel
theorem dX6_tries_15 : decode cX6_tries 15 = .ok (.aload_n 0, 1) := by decide +kernel
theorem dX6_tries_16 : decode cX6_tries 16 = .ok (.invokevirtual 241, 3) := by decide +kernel
theorem dX6_tries_19 : decode cX6_tries 19 = .ok (.aload_n 0, 1) := by decide +kernel
theorem dX6_tries_20 : decode cX6_tries 20 = .ok (.invokevirtual 235, 3) := by decide +kernel
theorem dX6_tries_23 : decode cX6_tries 23 = .ok (.istore_n 2, 1) := by decide +kernel
theorem dX6_tries_24 : decode cX6_tries 24 = .ok (.aload_n 0, 1) := by decide +kernel
theorem dX6_tries_25 : decode cX6_tries 25 = .ok (.iload_n 2, 1) := by decide +kernel
theorem dX6_tries_26 : decode cX6_tries 26 = .ok (.invokevirtual 238, 3) := by decide +kernel
theorem dX6_tries_29 : decode cX6_tries 29 = .ok (.aload_n 0, 1) := by decide +kernel
theorem dX6_tries_30 : decode cX6_tries 30 = .ok (.invokevirtual 244, 3) := by decide +kernel
theorem dX6_tries_33 : decode cX6_tries 33 = .ok (.iload_n 2, 1) := by decide +kernel
theorem dX6_tries_34 : decode cX6_tries 34 = .ok (.ireturn, 1) := by decide +kernel
theorem dX6_often_0 : decode cX6_often 0 = .ok (.iload_n 1, 1) := by decide +kernel
theorem dX6_often_1 : decode cX6_often 1 = .ok (.i2l, 1) := by decide +kernel
theorem dX6_often_2 : decode cX6_often 2 = .ok (.lconst 1, 1) := by decide +kernel
theorem dX6_often_3 : decode cX6_often 3 = .ok (.ldc2_w 80, 3) := by decide +kernel
theorem dX6_often_6 : decode cX6_often 6 = .ok (.invokestatic 62, 3) := by decide +kernel
theorem dX6_often_9 : decode cX6_often 9 = .ok (.ifCond .ne 10, 3) := by decide +kernel
theorem dX6_often_12 : decode cX6_often 12 = .ok (.aload_n 0, 1) := by decide +kernel
theorem dX6_often_13 : decode cX6_often 13 = .ok (.bipush (-2), 2) := by decide +kernel
theorem dX6_often_15 : decode cX6_often 15 = .ok (.invokevirtual 82, 3) := by decide +kernel
theorem dX6_often_18 : decode cX6_often 18 = .ok (.ireturn, 1) := by decide +kernel
theorem dX6_often_19 : decode cX6_often 19 = .ok (.aload_n 0, 1) := by decide +kernel
theorem dX6_often_20 : decode cX6_often 20 = .ok (.invokevirtual 232, 3) := by decide +kernel
theorem dX6_often_23 : decode cX6_often 23 = .ok (.istore_n 2, 1) := by decide +kernel
theorem dX6_often_24 : decode cX6_often 24 = .ok (.iload_n 2, 1) := by decide +kernel
theorem dX6_often_25 : decode cX6_often 25 = .ok (.iconst (-1), 1) := by decide +kernel
theorem dX6_often_26 : decode cX6_often 26 = .ok (.if_icmp .eq 8, 3) := by decide +kernel
theorem dX6_often_29 : decode cX6_often 29 = .ok (.bipush (-10), 2) := by decide +kernel
theorem dX6_often_31 : decode cX6_often 31 = .ok (.iload_n 2, 1) := by decide +kernel
theorem dX6_often_32 : decode cX6_often 32 = .ok (.isub, 1) := by decide +kernel
theorem dX6_often_33 : decode cX6_often 33 = .ok (.ireturn, 1) := by decide +kernel
theorem dX6_often_34 : decode cX6_often 34 = .ok (.aload_n 0, 1) := by decide +kernel
theorem dX6_often_35 : decode cX6_often 35 = .ok (.invokevirtual 86, 3) := by decide +kernel
theorem dX6_often_38 : decode cX6_often 38 = .ok (.iconst 0, 1) := by decide +kernel
theorem dX6_often_39 : decode cX6_often 39 = .ok (.istore_n 3, 1) := by decide +kernel
theorem dX6_often_40 : decode cX6_often 40 = .ok (.iconst 0, 1) := by decide +kernel
theorem dX6_often_41 : decode cX6_often 41 = .ok (.istore 4, 2) := by decide +kernel
theorem dX6_often_43 : decode cX6_often 43 = .ok (.iconst 0, 1) := by decide +kernel
theorem dX6_often_44 : decode cX6_often 44 = .ok (.istore 5, 2) := by decide +kernel
theorem dX6_often_46 : decode cX6_often 46 = .ok (.iload 5, 2) := by decide +kernel
theorem dX6_often_48 : decode cX6_often 48 = .ok (.iload_n 1, 1) := by decide +kernel
theorem dX6_often_49 : decode cX6_often 49 = .ok (.if_icmp .ge 39, 3) := by decide +kernel
theorem dX6_often_52 : decode cX6_often 52 = .ok (.iload 4, 2) := by decide +kernel
theorem dX6_often_54 : decode cX6_often 54 = .ok (.ifCond .ne 34, 3) := by decide +kernel
theorem dX6_often_57 : decode cX6_often 57 = .ok (.aload_n 0, 1) := by decide +kernel
theorem dX6_often_58 : decode cX6_often 58 = .ok (.invokevirtual 235, 3) := by decide +kernel
theorem dX6_often_61 : decode cX6_often 61 = .ok (.istore 4, 2) := by decide +kernel
theorem dX6_often_63 : decode cX6_often 63 = .ok (.aload_n 0, 1) := by decide +kernel
theorem dX6_often_64 : decode cX6_often 64 = .ok (.iload 4, 2) := by decide +kernel
theorem dX6_often_66 : decode cX6_often 66 = .ok (.invokevirtual 238, 3) := by decide +kernel
theorem dX6_often_69 : decode cX6_often 69 = .ok (.iload_n 3, 1) := by decide +kernel
theorem dX6_often_70 : decode cX6_often 70 = .ok (.iload 4, 2) := by decide +kernel
theorem dX6_often_72 : decode cX6_often 72 = .ok (.ifCond .ne 7, 3) := by decide +kernel
theorem dX6_often_75 : decode cX6_often 75 = .ok (.iconst 1, 1) := by decide +kernel
theorem dX6_often_76 : decode cX6_often 76 = .ok (.goto 4, 3) := by decide +kernel
theorem dX6_often_79 : decode cX6_often 79 = .ok (.iconst 0, 1) := by decide +kernel
theorem dX6_often_80 : decode cX6_often 80 = .ok (.iadd, 1) := by decide +kernel
theorem dX6_often_81 : decode cX6_often 81 = .ok (.istore_n 3, 1) := by decide +kernel
theorem dX6_often_82 : decode cX6_often 82 = .ok (.iinc 5 1, 3) := by decide +kernel
theorem dX6_often_85 : decode cX6_often 85 = .ok (.goto (-39), 3) := by decide +kernel
theorem dX6_often_88 : decode cX6_often 88 = .ok (.iload_n 3, 1) := by decide +kernel
theorem dX6_often_89 : decode cX6_often 89 = .ok (.ireturn, 1) := by decide +kernel
theorem dX6_toldWas_0 : decode cX6_toldWas 0 = .ok (.aload_n 0, 1) := by decide +kernel
theorem dX6_toldWas_1 : decode cX6_toldWas 1 = .ok (.getfield 225, 3) := by decide +kernel
theorem dX6_toldWas_4 : decode cX6_toldWas 4 = .ok (.ifCond .eq 12, 3) := by decide +kernel
theorem dX6_toldWas_7 : decode cX6_toldWas 7 = .ok (.aload_n 0, 1) := by decide +kernel
theorem dX6_toldWas_8 : decode cX6_toldWas 8 = .ok (.getfield 47, 3) := by decide +kernel
theorem dX6_toldWas_11 : decode cX6_toldWas 11 = .ok (.iload_n 1, 1) := by decide +kernel
theorem dX6_toldWas_12 : decode cX6_toldWas 12 = .ok (.iaload, 1) := by decide +kernel
theorem dX6_toldWas_13 : decode cX6_toldWas 13 = .ok (.goto 18, 3) := by decide +kernel
theorem dX6_toldWas_16 : decode cX6_toldWas 16 = .ok (.iload_n 1, 1) := by decide +kernel
theorem dX6_toldWas_17 : decode cX6_toldWas 17 = .ok (.iconst 1, 1) := by decide +kernel
theorem dX6_toldWas_18 : decode cX6_toldWas 18 = .ok (.if_icmp .eq 8, 3) := by decide +kernel
theorem dX6_toldWas_21 : decode cX6_toldWas 21 = .ok (.iload_n 1, 1) := by decide +kernel
theorem dX6_toldWas_22 : decode cX6_toldWas 22 = .ok (.iconst 2, 1) := by decide +kernel
theorem dX6_toldWas_23 : decode cX6_toldWas 23 = .ok (.if_icmp .ne 7, 3) := by decide +kernel
theorem dX6_toldWas_26 : decode cX6_toldWas 26 = .ok (.iconst (-1), 1) := by decide +kernel
theorem dX6_toldWas_27 : decode cX6_toldWas 27 = .ok (.goto 4, 3) := by decide +kernel
theorem dX6_toldWas_30 : decode cX6_toldWas 30 = .ok (.iconst 0, 1) := by decide +kernel
theorem dX6_toldWas_31 : decode cX6_toldWas 31 = .ok (.ireturn, 1) := by decide +kernel
theorem dX6_was_0 : decode cX6_was 0 = .ok (.iload_n 1, 1) := by decide +kernel
theorem dX6_was_1 : decode cX6_was 1 = .ok (.i2l, 1) := by decide +kernel
theorem dX6_was_2 : decode cX6_was 2 = .ok (.lconst 0, 1) := by decide +kernel
theorem dX6_was_3 : decode cX6_was 3 = .ok (.ldc2_w 60, 3) := by decide +kernel
theorem dX6_was_6 : decode cX6_was 6 = .ok (.invokestatic 62, 3) := by decide +kernel
theorem dX6_was_9 : decode cX6_was 9 = .ok (.ifCond .eq 11, 3) := by decide +kernel
theorem dX6_was_12 : decode cX6_was 12 = .ok (.aload_n 0, 1) := by decide +kernel
theorem dX6_was_13 : decode cX6_was 13 = .ok (.iload_n 1, 1) := by decide +kernel
theorem dX6_was_14 : decode cX6_was 14 = .ok (.invokevirtual 247, 3) := by decide +kernel
theorem dX6_was_17 : decode cX6_was 17 = .ok (.goto 9, 3) := by decide +kernel
theorem dX6_was_20 : decode cX6_was 20 = .ok (.aload_n 0, 1) := by decide +kernel
theorem dX6_was_21 : decode cX6_was 21 = .ok (.bipush (-2), 2) := by decide +kernel
theorem dX6_was_23 : decode cX6_was 23 = .ok (.invokevirtual 82, 3) := by decide +kernel
theorem dX6_was_26 : decode cX6_was 26 = .ok (.ireturn, 1) := by decide +kernel
theorem dX6_root_0 : decode cX6_root 0 = .ok (.aload_n 0, 1) := by decide +kernel
theorem dX6_root_1 : decode cX6_root 1 = .ok (.getfield 50, 3) := by decide +kernel
theorem dX6_root_4 : decode cX6_root 4 = .ok (.ireturn, 1) := by decide +kernel
theorem dX6_diary_0 : decode cX6_diary 0 = .ok (.iload_n 1, 1) := by decide +kernel
theorem dX6_diary_1 : decode cX6_diary 1 = .ok (.iconst (-1), 1) := by decide +kernel
theorem dX6_diary_2 : decode cX6_diary 2 = .ok (.if_icmp .ge 10, 3) := by decide +kernel
theorem dX6_diary_5 : decode cX6_diary 5 = .ok (.aload_n 0, 1) := by decide +kernel
theorem dX6_diary_6 : decode cX6_diary 6 = .ok (.bipush (-10), 2) := by decide +kernel
theorem dX6_diary_8 : decode cX6_diary 8 = .ok (.invokevirtual 82, 3) := by decide +kernel
theorem dX6_diary_11 : decode cX6_diary 11 = .ok (.ireturn, 1) := by decide +kernel
theorem dX6_diary_12 : decode cX6_diary 12 = .ok (.iload_n 1, 1) := by decide +kernel
theorem dX6_diary_13 : decode cX6_diary 13 = .ok (.iconst (-1), 1) := by decide +kernel
theorem dX6_diary_14 : decode cX6_diary 14 = .ok (.if_icmp .ne 10, 3) := by decide +kernel
theorem dX6_diary_17 : decode cX6_diary 17 = .ok (.aload_n 0, 1) := by decide +kernel
theorem dX6_diary_18 : decode cX6_diary 18 = .ok (.getfield 229, 3) := by decide +kernel
theorem dX6_diary_21 : decode cX6_diary 21 = .ok (.goto 22, 3) := by decide +kernel
theorem dX6_diary_24 : decode cX6_diary 24 = .ok (.iload_n 1, 1) := by decide +kernel
theorem dX6_diary_25 : decode cX6_diary 25 = .ok (.aload_n 0, 1) := by decide +kernel
theorem dX6_diary_26 : decode cX6_diary 26 = .ok (.getfield 229, 3) := by decide +kernel
theorem dX6_diary_29 : decode cX6_diary 29 = .ok (.if_icmp .ge 12, 3) := by decide +kernel
theorem dX6_diary_32 : decode cX6_diary 32 = .ok (.aload_n 0, 1) := by decide +kernel
theorem dX6_diary_33 : decode cX6_diary 33 = .ok (.getfield 54, 3) := by decide +kernel
theorem dX6_diary_36 : decode cX6_diary 36 = .ok (.iload_n 1, 1) := by decide +kernel
theorem dX6_diary_37 : decode cX6_diary 37 = .ok (.iaload, 1) := by decide +kernel
theorem dX6_diary_38 : decode cX6_diary 38 = .ok (.goto 5, 3) := by decide +kernel
theorem dX6_diary_41 : decode cX6_diary 41 = .ok (.bipush (-5), 2) := by decide +kernel
theorem dX6_diary_43 : decode cX6_diary 43 = .ok (.ireturn, 1) := by decide +kernel
theorem dX6_open_0 : decode cX6_open 0 = .ok (.iconst 0, 1) := by decide +kernel
theorem dX6_open_1 : decode cX6_open 1 = .ok (.ireturn, 1) := by decide +kernel
theorem dX6_endBy_0 : decode cX6_endBy 0 = .ok (.aload_n 0, 1) := by decide +kernel
theorem dX6_endBy_1 : decode cX6_endBy 1 = .ok (.getfield 7, 3) := by decide +kernel
theorem dX6_endBy_4 : decode cX6_endBy 4 = .ok (.bipush 56, 2) := by decide +kernel
theorem dX6_endBy_6 : decode cX6_endBy 6 = .ok (.iload_n 1, 1) := by decide +kernel
theorem dX6_endBy_7 : decode cX6_endBy 7 = .ok (.iastore, 1) := by decide +kernel
theorem dX6_endBy_8 : decode cX6_endBy 8 = .ok (.aload_n 0, 1) := by decide +kernel
theorem dX6_endBy_9 : decode cX6_endBy 9 = .ok (.invokevirtual 235, 3) := by decide +kernel
theorem dX6_endBy_12 : decode cX6_endBy 12 = .ok (.istore_n 2, 1) := by decide +kernel
theorem dX6_endBy_13 : decode cX6_endBy 13 = .ok (.aload_n 0, 1) := by decide +kernel
theorem dX6_endBy_14 : decode cX6_endBy 14 = .ok (.invokevirtual 244, 3) := by decide +kernel
theorem dX6_endBy_17 : decode cX6_endBy 17 = .ok (.iload_n 2, 1) := by decide +kernel
theorem dX6_endBy_18 : decode cX6_endBy 18 = .ok (.ireturn, 1) := by decide +kernel
theorem dX6_bits_0 : decode cX6_bits 0 = .ok (.iconst 0, 1) := by decide +kernel
theorem dX6_bits_1 : decode cX6_bits 1 = .ok (.istore_n 1, 1) := by decide +kernel
theorem dX6_bits_2 : decode cX6_bits 2 = .ok (.iload_n 0, 1) := by decide +kernel
theorem dX6_bits_3 : decode cX6_bits 3 = .ok (.istore_n 2, 1) := by decide +kernel
theorem dX6_bits_4 : decode cX6_bits 4 = .ok (.iload_n 2, 1) := by decide +kernel
theorem dX6_bits_5 : decode cX6_bits 5 = .ok (.ifCond .le 16, 3) := by decide +kernel
theorem dX6_bits_8 : decode cX6_bits 8 = .ok (.iload_n 1, 1) := by decide +kernel
theorem dX6_bits_9 : decode cX6_bits 9 = .ok (.iload_n 2, 1) := by decide +kernel
theorem dX6_bits_10 : decode cX6_bits 10 = .ok (.iconst 1, 1) := by decide +kernel
theorem dX6_bits_11 : decode cX6_bits 11 = .ok (.iand, 1) := by decide +kernel
theorem dX6_bits_12 : decode cX6_bits 12 = .ok (.iadd, 1) := by decide +kernel
theorem dX6_bits_13 : decode cX6_bits 13 = .ok (.istore_n 1, 1) := by decide +kernel
theorem dX6_bits_14 : decode cX6_bits 14 = .ok (.iload_n 2, 1) := by decide +kernel
theorem dX6_bits_15 : decode cX6_bits 15 = .ok (.iconst 1, 1) := by decide +kernel
theorem dX6_bits_16 : decode cX6_bits 16 = .ok (.ishr, 1) := by decide +kernel
theorem dX6_bits_17 : decode cX6_bits 17 = .ok (.istore_n 2, 1) := by decide +kernel
theorem dX6_bits_18 : decode cX6_bits 18 = .ok (.goto (-14), 3) := by decide +kernel
theorem dX6_bits_21 : decode cX6_bits 21 = .ok (.iload_n 1, 1) := by decide +kernel
theorem dX6_bits_22 : decode cX6_bits 22 = .ok (.ireturn, 1) := by decide +kernel
theorem dX6_fewest_0 : decode cX6_fewest 0 = .ok (.aload_n 0, 1) := by decide +kernel
theorem dX6_fewest_1 : decode cX6_fewest 1 = .ok (.invokevirtual 232, 3) := by decide +kernel
theorem dX6_fewest_4 : decode cX6_fewest 4 = .ok (.istore_n 1, 1) := by decide +kernel
theorem dX6_fewest_5 : decode cX6_fewest 5 = .ok (.iload_n 1, 1) := by decide +kernel
theorem dX6_fewest_6 : decode cX6_fewest 6 = .ok (.iconst (-1), 1) := by decide +kernel
theorem dX6_fewest_7 : decode cX6_fewest 7 = .ok (.if_icmp .eq 8, 3) := by decide +kernel
theorem dX6_fewest_10 : decode cX6_fewest 10 = .ok (.bipush (-10), 2) := by decide +kernel
theorem dX6_fewest_12 : decode cX6_fewest 12 = .ok (.iload_n 1, 1) := by decide +kernel
theorem dX6_fewest_13 : decode cX6_fewest 13 = .ok (.isub, 1) := by decide +kernel
theorem dX6_fewest_14 : decode cX6_fewest 14 = .ok (.ireturn, 1) := by decide +kernel
theorem dX6_fewest_15 : decode cX6_fewest 15 = .ok (.iconst (-1), 1) := by decide +kernel
theorem dX6_fewest_16 : decode cX6_fewest 16 = .ok (.istore_n 2, 1) := by decide +kernel
theorem dX6_fewest_17 : decode cX6_fewest 17 = .ok (.aload_n 0, 1) := by decide +kernel
theorem dX6_fewest_18 : decode cX6_fewest 18 = .ok (.invokevirtual 241, 3) := by decide +kernel
theorem dX6_fewest_21 : decode cX6_fewest 21 = .ok (.iconst 0, 1) := by decide +kernel
theorem dX6_fewest_22 : decode cX6_fewest 22 = .ok (.istore_n 3, 1) := by decide +kernel
theorem dX6_fewest_23 : decode cX6_fewest 23 = .ok (.iload_n 3, 1) := by decide +kernel
theorem dX6_fewest_24 : decode cX6_fewest 24 = .ok (.bipush 16, 2) := by decide +kernel
theorem dX6_fewest_26 : decode cX6_fewest 26 = .ok (.if_icmp .ge 51, 3) := by decide +kernel
theorem dX6_fewest_29 : decode cX6_fewest 29 = .ok (.iload_n 2, 1) := by decide +kernel
theorem dX6_fewest_30 : decode cX6_fewest 30 = .ok (.iconst (-1), 1) := by decide +kernel
theorem dX6_fewest_31 : decode cX6_fewest 31 = .ok (.if_icmp .eq 14, 3) := by decide +kernel
theorem dX6_fewest_34 : decode cX6_fewest 34 = .ok (.iload_n 3, 1) := by decide +kernel
theorem dX6_fewest_35 : decode cX6_fewest 35 = .ok (.invokestatic 250, 3) := by decide +kernel
theorem dX6_fewest_38 : decode cX6_fewest 38 = .ok (.iload_n 2, 1) := by decide +kernel
theorem dX6_fewest_39 : decode cX6_fewest 39 = .ok (.invokestatic 250, 3) := by decide +kernel
theorem dX6_fewest_42 : decode cX6_fewest 42 = .ok (.if_icmp .ge 7, 3) := by decide +kernel
theorem dX6_fewest_45 : decode cX6_fewest 45 = .ok (.iconst 1, 1) := by decide +kernel
theorem dX6_fewest_46 : decode cX6_fewest 46 = .ok (.goto 4, 3) := by decide +kernel
theorem dX6_fewest_49 : decode cX6_fewest 49 = .ok (.iconst 0, 1) := by decide +kernel
theorem dX6_fewest_50 : decode cX6_fewest 50 = .ok (.istore 4, 2) := by decide +kernel
theorem dX6_fewest_52 : decode cX6_fewest 52 = .ok (.iload 4, 2) := by decide +kernel
theorem dX6_fewest_54 : decode cX6_fewest 54 = .ok (.ifCond .eq 15, 3) := by decide +kernel
theorem dX6_fewest_57 : decode cX6_fewest 57 = .ok (.aload_n 0, 1) := by decide +kernel
theorem dX6_fewest_58 : decode cX6_fewest 58 = .ok (.iload_n 3, 1) := by decide +kernel
theorem dX6_fewest_59 : decode cX6_fewest 59 = .ok (.invokevirtual 253, 3) := by decide +kernel
theorem dX6_fewest_62 : decode cX6_fewest 62 = .ok (.ifCond .ne 7, 3) := by decide +kernel
theorem dX6_fewest_65 : decode cX6_fewest 65 = .ok (.iload_n 3, 1) := by decide +kernel
theorem dX6_fewest_66 : decode cX6_fewest 66 = .ok (.goto 4, 3) := by decide +kernel
theorem dX6_fewest_69 : decode cX6_fewest 69 = .ok (.iload_n 2, 1) := by decide +kernel
theorem dX6_fewest_70 : decode cX6_fewest 70 = .ok (.istore_n 2, 1) := by decide +kernel
theorem dX6_fewest_71 : decode cX6_fewest 71 = .ok (.iinc 3 2, 3) := by decide +kernel
theorem dX6_fewest_74 : decode cX6_fewest 74 = .ok (.goto (-51), 3) := by decide +kernel
theorem dX6_fewest_77 : decode cX6_fewest 77 = .ok (.iload_n 2, 1) := by decide +kernel
theorem dX6_fewest_78 : decode cX6_fewest 78 = .ok (.ireturn, 1) := by decide +kernel
theorem dX6_were_0 : decode cX6_were 0 = .ok (.iload_n 1, 1) := by decide +kernel
theorem dX6_were_1 : decode cX6_were 1 = .ok (.invokestatic 76, 3) := by decide +kernel
theorem dX6_were_4 : decode cX6_were 4 = .ok (.ifCond .eq 15, 3) := by decide +kernel
theorem dX6_were_7 : decode cX6_were 7 = .ok (.iload_n 2, 1) := by decide +kernel
theorem dX6_were_8 : decode cX6_were 8 = .ok (.i2l, 1) := by decide +kernel
theorem dX6_were_9 : decode cX6_were 9 = .ok (.lconst 0, 1) := by decide +kernel
theorem dX6_were_10 : decode cX6_were 10 = .ok (.ldc2_w 256, 3) := by decide +kernel
theorem dX6_were_13 : decode cX6_were 13 = .ok (.invokestatic 62, 3) := by decide +kernel
theorem dX6_were_16 : decode cX6_were 16 = .ok (.ifCond .ne 10, 3) := by decide +kernel
theorem dX6_were_19 : decode cX6_were 19 = .ok (.aload_n 0, 1) := by decide +kernel
theorem dX6_were_20 : decode cX6_were 20 = .ok (.bipush (-2), 2) := by decide +kernel
theorem dX6_were_22 : decode cX6_were 22 = .ok (.invokevirtual 82, 3) := by decide +kernel
theorem dX6_were_25 : decode cX6_were 25 = .ok (.ireturn, 1) := by decide +kernel
theorem dX6_were_26 : decode cX6_were 26 = .ok (.aload_n 0, 1) := by decide +kernel
theorem dX6_were_27 : decode cX6_were 27 = .ok (.invokevirtual 232, 3) := by decide +kernel
theorem dX6_were_30 : decode cX6_were 30 = .ok (.istore_n 3, 1) := by decide +kernel
theorem dX6_were_31 : decode cX6_were 31 = .ok (.iload_n 3, 1) := by decide +kernel
theorem dX6_were_32 : decode cX6_were 32 = .ok (.iconst (-1), 1) := by decide +kernel
theorem dX6_were_33 : decode cX6_were 33 = .ok (.if_icmp .eq 8, 3) := by decide +kernel
theorem dX6_were_36 : decode cX6_were 36 = .ok (.bipush (-10), 2) := by decide +kernel
theorem dX6_were_38 : decode cX6_were 38 = .ok (.iload_n 3, 1) := by decide +kernel
theorem dX6_were_39 : decode cX6_were 39 = .ok (.isub, 1) := by decide +kernel
theorem dX6_were_40 : decode cX6_were 40 = .ok (.ireturn, 1) := by decide +kernel
theorem dX6_were_41 : decode cX6_were 41 = .ok (.aload_n 0, 1) := by decide +kernel
theorem dX6_were_42 : decode cX6_were 42 = .ok (.invokevirtual 241, 3) := by decide +kernel
theorem dX6_were_45 : decode cX6_were 45 = .ok (.aload_n 0, 1) := by decide +kernel
theorem dX6_were_46 : decode cX6_were 46 = .ok (.iload_n 1, 1) := by decide +kernel
theorem dX6_were_47 : decode cX6_were 47 = .ok (.iconst 0, 1) := by decide +kernel
theorem dX6_were_48 : decode cX6_were 48 = .ok (.iload_n 2, 1) := by decide +kernel
theorem dX6_were_49 : decode cX6_were 49 = .ok (.invokevirtual 89, 3) := by decide +kernel
theorem dX6_were_52 : decode cX6_were 52 = .ok (.aload_n 0, 1) := by decide +kernel
theorem dX6_were_53 : decode cX6_were 53 = .ok (.invokevirtual 235, 3) := by decide +kernel
theorem dX6_were_56 : decode cX6_were 56 = .ok (.istore 4, 2) := by decide +kernel
theorem dX6_were_58 : decode cX6_were 58 = .ok (.aload_n 0, 1) := by decide +kernel
theorem dX6_were_59 : decode cX6_were 59 = .ok (.invokevirtual 244, 3) := by decide +kernel
theorem dX6_were_62 : decode cX6_were 62 = .ok (.iload 4, 2) := by decide +kernel
theorem dX6_were_64 : decode cX6_were 64 = .ok (.ireturn, 1) := by decide +kernel
theorem dX6_cures_0 : decode cX6_cures 0 = .ok (.iload_n 1, 1) := by decide +kernel
theorem dX6_cures_1 : decode cX6_cures 1 = .ok (.i2l, 1) := by decide +kernel
theorem dX6_cures_2 : decode cX6_cures 2 = .ok (.lconst 0, 1) := by decide +kernel
theorem dX6_cures_3 : decode cX6_cures 3 = .ok (.ldc2_w 258, 3) := by decide +kernel
theorem dX6_cures_6 : decode cX6_cures 6 = .ok (.invokestatic 62, 3) := by decide +kernel
theorem dX6_cures_9 : decode cX6_cures 9 = .ok (.ifCond .ne 10, 3) := by decide +kernel
theorem dX6_cures_12 : decode cX6_cures 12 = .ok (.aload_n 0, 1) := by decide +kernel
theorem dX6_cures_13 : decode cX6_cures 13 = .ok (.bipush (-2), 2) := by decide +kernel
theorem dX6_cures_15 : decode cX6_cures 15 = .ok (.invokevirtual 82, 3) := by decide +kernel
theorem dX6_cures_18 : decode cX6_cures 18 = .ok (.ireturn, 1) := by decide +kernel
theorem dX6_cures_19 : decode cX6_cures 19 = .ok (.aload_n 0, 1) := by decide +kernel
theorem dX6_cures_20 : decode cX6_cures 20 = .ok (.invokevirtual 232, 3) := by decide +kernel
theorem dX6_cures_23 : decode cX6_cures 23 = .ok (.istore_n 2, 1) := by decide +kernel
theorem dX6_cures_24 : decode cX6_cures 24 = .ok (.iload_n 2, 1) := by decide +kernel
theorem dX6_cures_25 : decode cX6_cures 25 = .ok (.iconst (-1), 1) := by decide +kernel
theorem dX6_cures_26 : decode cX6_cures 26 = .ok (.if_icmp .eq 8, 3) := by decide +kernel
theorem dX6_cures_29 : decode cX6_cures 29 = .ok (.bipush (-10), 2) := by decide +kernel
theorem dX6_cures_31 : decode cX6_cures 31 = .ok (.iload_n 2, 1) := by decide +kernel
theorem dX6_cures_32 : decode cX6_cures 32 = .ok (.isub, 1) := by decide +kernel
theorem dX6_cures_33 : decode cX6_cures 33 = .ok (.ireturn, 1) := by decide +kernel
theorem dX6_cures_34 : decode cX6_cures 34 = .ok (.iconst 0, 1) := by decide +kernel
theorem dX6_cures_35 : decode cX6_cures 35 = .ok (.istore_n 3, 1) := by decide +kernel
theorem dX6_cures_36 : decode cX6_cures 36 = .ok (.aload_n 0, 1) := by decide +kernel
theorem dX6_cures_37 : decode cX6_cures 37 = .ok (.invokevirtual 241, 3) := by decide +kernel
theorem dX6_cures_40 : decode cX6_cures 40 = .ok (.iconst 0, 1) := by decide +kernel
theorem dX6_cures_41 : decode cX6_cures 41 = .ok (.istore 4, 2) := by decide +kernel
theorem dX6_cures_43 : decode cX6_cures 43 = .ok (.iload 4, 2) := by decide +kernel
theorem dX6_cures_45 : decode cX6_cures 45 = .ok (.bipush 8, 2) := by decide +kernel
theorem dX6_cures_47 : decode cX6_cures 47 = .ok (.if_icmp .ge 56, 3) := by decide +kernel
theorem dX6_cures_50 : decode cX6_cures 50 = .ok (.aload_n 0, 1) := by decide +kernel
theorem dX6_cures_51 : decode cX6_cures 51 = .ok (.iload 4, 2) := by decide +kernel
theorem dX6_cures_53 : decode cX6_cures 53 = .ok (.iload_n 1, 1) := by decide +kernel
theorem dX6_cures_54 : decode cX6_cures 54 = .ok (.ifCond .ne 7, 3) := by decide +kernel
theorem dX6_cures_57 : decode cX6_cures 57 = .ok (.iconst 0, 1) := by decide +kernel
theorem dX6_cures_58 : decode cX6_cures 58 = .ok (.goto 13, 3) := by decide +kernel
theorem dX6_cures_61 : decode cX6_cures 61 = .ok (.iload_n 1, 1) := by decide +kernel
theorem dX6_cures_62 : decode cX6_cures 62 = .ok (.iconst 1, 1) := by decide +kernel
theorem dX6_cures_63 : decode cX6_cures 63 = .ok (.if_icmp .ne 7, 3) := by decide +kernel
theorem dX6_cures_66 : decode cX6_cures 66 = .ok (.iconst 3, 1) := by decide +kernel
theorem dX6_cures_67 : decode cX6_cures 67 = .ok (.goto 4, 3) := by decide +kernel
theorem dX6_cures_70 : decode cX6_cures 70 = .ok (.iconst 1, 1) := by decide +kernel
theorem dX6_cures_71 : decode cX6_cures 71 = .ok (.iconst 0, 1) := by decide +kernel
theorem dX6_cures_72 : decode cX6_cures 72 = .ok (.invokevirtual 89, 3) := by decide +kernel
theorem dX6_cures_75 : decode cX6_cures 75 = .ok (.iload_n 3, 1) := by decide +kernel
theorem dX6_cures_76 : decode cX6_cures 76 = .ok (.aload_n 0, 1) := by decide +kernel
theorem dX6_cures_77 : decode cX6_cures 77 = .ok (.invokevirtual 235, 3) := by decide +kernel
theorem dX6_cures_80 : decode cX6_cures 80 = .ok (.ifCond .ne 10, 3) := by decide +kernel
theorem dX6_cures_83 : decode cX6_cures 83 = .ok (.iconst 1, 1) := by decide +kernel
theorem dX6_cures_84 : decode cX6_cures 84 = .ok (.iload 4, 2) := by decide +kernel
theorem dX6_cures_86 : decode cX6_cures 86 = .ok (.ishl, 1) := by decide +kernel
theorem dX6_cures_87 : decode cX6_cures 87 = .ok (.goto 4, 3) := by decide +kernel
theorem dX6_cures_90 : decode cX6_cures 90 = .ok (.iconst 0, 1) := by decide +kernel
theorem dX6_cures_91 : decode cX6_cures 91 = .ok (.ior, 1) := by decide +kernel
theorem dX6_cures_92 : decode cX6_cures 92 = .ok (.istore_n 3, 1) := by decide +kernel
theorem dX6_cures_93 : decode cX6_cures 93 = .ok (.aload_n 0, 1) := by decide +kernel
theorem dX6_cures_94 : decode cX6_cures 94 = .ok (.invokevirtual 244, 3) := by decide +kernel
theorem dX6_cures_97 : decode cX6_cures 97 = .ok (.iinc 4 1, 3) := by decide +kernel
theorem dX6_cures_100 : decode cX6_cures 100 = .ok (.goto (-57), 3) := by decide +kernel
theorem dX6_cures_103 : decode cX6_cures 103 = .ok (.iload_n 3, 1) := by decide +kernel
theorem dX6_cures_104 : decode cX6_cures 104 = .ok (.ireturn, 1) := by decide +kernel
theorem dX6_ends_0 : decode cX6_ends 0 = .ok (.iload_n 1, 1) := by decide +kernel
theorem dX6_ends_1 : decode cX6_ends 1 = .ok (.i2l, 1) := by decide +kernel
theorem dX6_ends_2 : decode cX6_ends 2 = .ok (.lconst 0, 1) := by decide +kernel
theorem dX6_ends_3 : decode cX6_ends 3 = .ok (.ldc2_w 260, 3) := by decide +kernel
theorem dX6_ends_6 : decode cX6_ends 6 = .ok (.invokestatic 62, 3) := by decide +kernel
theorem dX6_ends_9 : decode cX6_ends 9 = .ok (.ifCond .ne 10, 3) := by decide +kernel
theorem dX6_ends_12 : decode cX6_ends 12 = .ok (.aload_n 0, 1) := by decide +kernel
theorem dX6_ends_13 : decode cX6_ends 13 = .ok (.bipush (-2), 2) := by decide +kernel
theorem dX6_ends_15 : decode cX6_ends 15 = .ok (.invokevirtual 82, 3) := by decide +kernel
theorem dX6_ends_18 : decode cX6_ends 18 = .ok (.ireturn, 1) := by decide +kernel
theorem dX6_ends_19 : decode cX6_ends 19 = .ok (.aload_n 0, 1) := by decide +kernel
theorem dX6_ends_20 : decode cX6_ends 20 = .ok (.invokevirtual 232, 3) := by decide +kernel
theorem dX6_ends_23 : decode cX6_ends 23 = .ok (.istore_n 2, 1) := by decide +kernel
theorem dX6_ends_24 : decode cX6_ends 24 = .ok (.iload_n 2, 1) := by decide +kernel
theorem dX6_ends_25 : decode cX6_ends 25 = .ok (.iconst (-1), 1) := by decide +kernel
theorem dX6_ends_26 : decode cX6_ends 26 = .ok (.if_icmp .eq 8, 3) := by decide +kernel
theorem dX6_ends_29 : decode cX6_ends 29 = .ok (.bipush (-10), 2) := by decide +kernel
theorem dX6_ends_31 : decode cX6_ends 31 = .ok (.iload_n 2, 1) := by decide +kernel
theorem dX6_ends_32 : decode cX6_ends 32 = .ok (.isub, 1) := by decide +kernel
theorem dX6_ends_33 : decode cX6_ends 33 = .ok (.ireturn, 1) := by decide +kernel
theorem dX6_ends_34 : decode cX6_ends 34 = .ok (.iconst 0, 1) := by decide +kernel
theorem dX6_ends_35 : decode cX6_ends 35 = .ok (.istore_n 3, 1) := by decide +kernel
theorem dX6_ends_36 : decode cX6_ends 36 = .ok (.aload_n 0, 1) := by decide +kernel
theorem dX6_ends_37 : decode cX6_ends 37 = .ok (.invokevirtual 241, 3) := by decide +kernel
theorem dX6_ends_40 : decode cX6_ends 40 = .ok (.iconst 0, 1) := by decide +kernel
theorem dX6_ends_41 : decode cX6_ends 41 = .ok (.istore 4, 2) := by decide +kernel
theorem dX6_ends_43 : decode cX6_ends 43 = .ok (.iload 4, 2) := by decide +kernel
theorem dX6_ends_45 : decode cX6_ends 45 = .ok (.bipush 16, 2) := by decide +kernel
theorem dX6_ends_47 : decode cX6_ends 47 = .ok (.if_icmp .ge 27, 3) := by decide +kernel
theorem dX6_ends_50 : decode cX6_ends 50 = .ok (.iload_n 3, 1) := by decide +kernel
theorem dX6_ends_51 : decode cX6_ends 51 = .ok (.aload_n 0, 1) := by decide +kernel
theorem dX6_ends_52 : decode cX6_ends 52 = .ok (.iload 4, 2) := by decide +kernel
theorem dX6_ends_54 : decode cX6_ends 54 = .ok (.invokevirtual 253, 3) := by decide +kernel
theorem dX6_ends_57 : decode cX6_ends 57 = .ok (.iload_n 1, 1) := by decide +kernel
theorem dX6_ends_58 : decode cX6_ends 58 = .ok (.if_icmp .ne 7, 3) := by decide +kernel
theorem dX6_ends_61 : decode cX6_ends 61 = .ok (.iconst 1, 1) := by decide +kernel
theorem dX6_ends_62 : decode cX6_ends 62 = .ok (.goto 4, 3) := by decide +kernel
theorem dX6_ends_65 : decode cX6_ends 65 = .ok (.iconst 0, 1) := by decide +kernel
theorem dX6_ends_66 : decode cX6_ends 66 = .ok (.iadd, 1) := by decide +kernel
theorem dX6_ends_67 : decode cX6_ends 67 = .ok (.istore_n 3, 1) := by decide +kernel
theorem dX6_ends_68 : decode cX6_ends 68 = .ok (.iinc 4 2, 3) := by decide +kernel
theorem dX6_ends_71 : decode cX6_ends 71 = .ok (.goto (-28), 3) := by decide +kernel
theorem dX6_ends_74 : decode cX6_ends 74 = .ok (.iload_n 3, 1) := by decide +kernel
theorem dX6_ends_75 : decode cX6_ends 75 = .ok (.ireturn, 1) := by decide +kernel
theorem dX6_told_0 : decode cX6_told 0 = .ok (.iload_n 1, 1) := by decide +kernel
theorem dX6_told_1 : decode cX6_told 1 = .ok (.i2l, 1) := by decide +kernel
theorem dX6_told_2 : decode cX6_told 2 = .ok (.lconst 0, 1) := by decide +kernel
theorem dX6_told_3 : decode cX6_told 3 = .ok (.ldc2_w 258, 3) := by decide +kernel
theorem dX6_told_6 : decode cX6_told 6 = .ok (.invokestatic 62, 3) := by decide +kernel
theorem dX6_told_9 : decode cX6_told 9 = .ok (.ifCond .ne 10, 3) := by decide +kernel
theorem dX6_told_12 : decode cX6_told 12 = .ok (.aload_n 0, 1) := by decide +kernel
theorem dX6_told_13 : decode cX6_told 13 = .ok (.bipush (-2), 2) := by decide +kernel
theorem dX6_told_15 : decode cX6_told 15 = .ok (.invokevirtual 82, 3) := by decide +kernel
theorem dX6_told_18 : decode cX6_told 18 = .ok (.ireturn, 1) := by decide +kernel
theorem dX6_told_19 : decode cX6_told 19 = .ok (.aload_n 0, 1) := by decide +kernel
theorem dX6_told_20 : decode cX6_told 20 = .ok (.invokevirtual 232, 3) := by decide +kernel
theorem dX6_told_23 : decode cX6_told 23 = .ok (.istore_n 2, 1) := by decide +kernel
theorem dX6_told_24 : decode cX6_told 24 = .ok (.iload_n 2, 1) := by decide +kernel
theorem dX6_told_25 : decode cX6_told 25 = .ok (.iconst (-1), 1) := by decide +kernel
theorem dX6_told_26 : decode cX6_told 26 = .ok (.if_icmp .eq 8, 3) := by decide +kernel
theorem dX6_told_29 : decode cX6_told 29 = .ok (.bipush (-10), 2) := by decide +kernel
theorem dX6_told_31 : decode cX6_told 31 = .ok (.iload_n 2, 1) := by decide +kernel
theorem dX6_told_32 : decode cX6_told 32 = .ok (.isub, 1) := by decide +kernel
theorem dX6_told_33 : decode cX6_told 33 = .ok (.ireturn, 1) := by decide +kernel
theorem dX6_told_34 : decode cX6_told 34 = .ok (.iload_n 1, 1) := by decide +kernel
theorem dX6_told_35 : decode cX6_told 35 = .ok (.ifCond .ne 10, 3) := by decide +kernel
theorem dX6_told_38 : decode cX6_told 38 = .ok (.aload_n 0, 1) := by decide +kernel
theorem dX6_told_39 : decode cX6_told 39 = .ok (.getfield 123, 3) := by decide +kernel
theorem dX6_told_42 : decode cX6_told 42 = .ok (.goto 19, 3) := by decide +kernel
theorem dX6_told_45 : decode cX6_told 45 = .ok (.iload_n 1, 1) := by decide +kernel
theorem dX6_told_46 : decode cX6_told 46 = .ok (.iconst 1, 1) := by decide +kernel
theorem dX6_told_47 : decode cX6_told 47 = .ok (.if_icmp .ne 10, 3) := by decide +kernel
theorem dX6_told_50 : decode cX6_told 50 = .ok (.aload_n 0, 1) := by decide +kernel
theorem dX6_told_51 : decode cX6_told 51 = .ok (.getfield 126, 3) := by decide +kernel
theorem dX6_told_54 : decode cX6_told 54 = .ok (.goto 7, 3) := by decide +kernel
theorem dX6_told_57 : decode cX6_told 57 = .ok (.aload_n 0, 1) := by decide +kernel
theorem dX6_told_58 : decode cX6_told 58 = .ok (.getfield 129, 3) := by decide +kernel
theorem dX6_told_61 : decode cX6_told 61 = .ok (.ireturn, 1) := by decide +kernel
theorem dX6_atMost3_0 : decode cX6_atMost3 0 = .ok (.lload_n 0, 1) := by decide +kernel
theorem dX6_atMost3_1 : decode cX6_atMost3 1 = .ok (.ldc2_w 80, 3) := by decide +kernel
theorem dX6_atMost3_4 : decode cX6_atMost3 4 = .ok (.lcmp, 1) := by decide +kernel
theorem dX6_atMost3_5 : decode cX6_atMost3 5 = .ok (.ifCond .le 7, 3) := by decide +kernel
theorem dX6_atMost3_8 : decode cX6_atMost3 8 = .ok (.iconst 0, 1) := by decide +kernel
theorem dX6_atMost3_9 : decode cX6_atMost3 9 = .ok (.goto 5, 3) := by decide +kernel
theorem dX6_atMost3_12 : decode cX6_atMost3 12 = .ok (.lload_n 0, 1) := by decide +kernel
theorem dX6_atMost3_13 : decode cX6_atMost3 13 = .ok (.l2i, 1) := by decide +kernel
theorem dX6_atMost3_14 : decode cX6_atMost3 14 = .ok (.ireturn, 1) := by decide +kernel
theorem dX6_draw_0 : decode cX6_draw 0 = .ok (.iload_n 1, 1) := by decide +kernel
theorem dX6_draw_1 : decode cX6_draw 1 = .ok (.i2l, 1) := by decide +kernel
theorem dX6_draw_2 : decode cX6_draw 2 = .ok (.lconst 0, 1) := by decide +kernel
theorem dX6_draw_3 : decode cX6_draw 3 = .ok (.ldc2_w 262, 3) := by decide +kernel
theorem dX6_draw_6 : decode cX6_draw 6 = .ok (.invokestatic 62, 3) := by decide +kernel
theorem dX6_draw_9 : decode cX6_draw 9 = .ok (.ifCond .ne 10, 3) := by decide +kernel
theorem dX6_draw_12 : decode cX6_draw 12 = .ok (.aload_n 0, 1) := by decide +kernel
theorem dX6_draw_13 : decode cX6_draw 13 = .ok (.bipush (-2), 2) := by decide +kernel
theorem dX6_draw_15 : decode cX6_draw 15 = .ok (.invokevirtual 82, 3) := by decide +kernel
theorem dX6_draw_18 : decode cX6_draw 18 = .ok (.ireturn, 1) := by decide +kernel
theorem dX6_draw_19 : decode cX6_draw 19 = .ok (.aload_n 0, 1) := by decide +kernel
theorem dX6_draw_20 : decode cX6_draw 20 = .ok (.invokevirtual 86, 3) := by decide +kernel
theorem dX6_draw_23 : decode cX6_draw 23 = .ok (.iload_n 1, 1) := by decide +kernel
theorem dX6_draw_24 : decode cX6_draw 24 = .ok (.i2l, 1) := by decide +kernel
theorem dX6_draw_25 : decode cX6_draw 25 = .ok (.lstore_n 2, 1) := by decide +kernel
theorem dX6_draw_26 : decode cX6_draw 26 = .ok (.iconst 0, 1) := by decide +kernel
theorem dX6_draw_27 : decode cX6_draw 27 = .ok (.istore 4, 2) := by decide +kernel
theorem dX6_draw_29 : decode cX6_draw 29 = .ok (.iload 4, 2) := by decide +kernel
theorem dX6_draw_31 : decode cX6_draw 31 = .ok (.bipush 58, 2) := by decide +kernel
theorem dX6_draw_33 : decode cX6_draw 33 = .ok (.if_icmp .ge 17, 3) := by decide +kernel
theorem dX6_draw_36 : decode cX6_draw 36 = .ok (.aload_n 0, 1) := by decide +kernel
theorem dX6_draw_37 : decode cX6_draw 37 = .ok (.getfield 7, 3) := by decide +kernel
theorem dX6_draw_40 : decode cX6_draw 40 = .ok (.iload 4, 2) := by decide +kernel
theorem dX6_draw_42 : decode cX6_draw 42 = .ok (.iconst 0, 1) := by decide +kernel
theorem dX6_draw_43 : decode cX6_draw 43 = .ok (.iastore, 1) := by decide +kernel
theorem dX6_draw_44 : decode cX6_draw 44 = .ok (.iinc 4 1, 3) := by decide +kernel
theorem dX6_draw_47 : decode cX6_draw 47 = .ok (.goto (-18), 3) := by decide +kernel
theorem dX6_draw_50 : decode cX6_draw 50 = .ok (.iconst 0, 1) := by decide +kernel
theorem dX6_draw_51 : decode cX6_draw 51 = .ok (.istore 4, 2) := by decide +kernel
theorem dX6_draw_53 : decode cX6_draw 53 = .ok (.iload 4, 2) := by decide +kernel
theorem dX6_draw_55 : decode cX6_draw 55 = .ok (.bipush 8, 2) := by decide +kernel
theorem dX6_draw_57 : decode cX6_draw 57 = .ok (.if_icmp .ge 95, 3) := by decide +kernel
theorem dX6_draw_60 : decode cX6_draw 60 = .ok (.lload_n 2, 1) := by decide +kernel
theorem dX6_draw_61 : decode cX6_draw 61 = .ok (.ldc2_w 264, 3) := by decide +kernel
theorem dX6_draw_64 : decode cX6_draw 64 = .ok (.lmul, 1) := by decide +kernel
theorem dX6_draw_65 : decode cX6_draw 65 = .ok (.ldc2_w 266, 3) := by decide +kernel
theorem dX6_draw_68 : decode cX6_draw 68 = .ok (.ladd, 1) := by decide +kernel
theorem dX6_draw_69 : decode cX6_draw 69 = .ok (.ldc2_w 268, 3) := by decide +kernel
theorem dX6_draw_72 : decode cX6_draw 72 = .ok (.lrem, 1) := by decide +kernel
theorem dX6_draw_73 : decode cX6_draw 73 = .ok (.lstore_n 2, 1) := by decide +kernel
theorem dX6_draw_74 : decode cX6_draw 74 = .ok (.aload_n 0, 1) := by decide +kernel
theorem dX6_draw_75 : decode cX6_draw 75 = .ok (.iload 4, 2) := by decide +kernel
theorem dX6_draw_77 : decode cX6_draw 77 = .ok (.iconst 0, 1) := by decide +kernel
theorem dX6_draw_78 : decode cX6_draw 78 = .ok (.lload_n 2, 1) := by decide +kernel
theorem dX6_draw_79 : decode cX6_draw 79 = .ok (.ldc2_w 270, 3) := by decide +kernel
theorem dX6_draw_82 : decode cX6_draw 82 = .ok (.ldiv, 1) := by decide +kernel
theorem dX6_draw_83 : decode cX6_draw 83 = .ok (.ldc2_w 272, 3) := by decide +kernel
theorem dX6_draw_86 : decode cX6_draw 86 = .ok (.lrem, 1) := by decide +kernel
theorem dX6_draw_87 : decode cX6_draw 87 = .ok (.l2i, 1) := by decide +kernel
theorem dX6_draw_88 : decode cX6_draw 88 = .ok (.invokevirtual 89, 3) := by decide +kernel
theorem dX6_draw_91 : decode cX6_draw 91 = .ok (.aload_n 0, 1) := by decide +kernel
theorem dX6_draw_92 : decode cX6_draw 92 = .ok (.iload 4, 2) := by decide +kernel
theorem dX6_draw_94 : decode cX6_draw 94 = .ok (.iconst 1, 1) := by decide +kernel
theorem dX6_draw_95 : decode cX6_draw 95 = .ok (.lload_n 2, 1) := by decide +kernel
theorem dX6_draw_96 : decode cX6_draw 96 = .ok (.ldc2_w 274, 3) := by decide +kernel
theorem dX6_draw_99 : decode cX6_draw 99 = .ok (.ldiv, 1) := by decide +kernel
theorem dX6_draw_100 : decode cX6_draw 100 = .ok (.ldc2_w 276, 3) := by decide +kernel
theorem dX6_draw_103 : decode cX6_draw 103 = .ok (.lrem, 1) := by decide +kernel
theorem dX6_draw_104 : decode cX6_draw 104 = .ok (.invokestatic 278, 3) := by decide +kernel
theorem dX6_draw_107 : decode cX6_draw 107 = .ok (.invokevirtual 89, 3) := by decide +kernel
theorem dX6_draw_110 : decode cX6_draw 110 = .ok (.aload_n 0, 1) := by decide +kernel
theorem dX6_draw_111 : decode cX6_draw 111 = .ok (.iload 4, 2) := by decide +kernel
theorem dX6_draw_113 : decode cX6_draw 113 = .ok (.iconst 2, 1) := by decide +kernel
theorem dX6_draw_114 : decode cX6_draw 114 = .ok (.lload_n 2, 1) := by decide +kernel
theorem dX6_draw_115 : decode cX6_draw 115 = .ok (.ldc2_w 282, 3) := by decide +kernel
theorem dX6_draw_118 : decode cX6_draw 118 = .ok (.ldiv, 1) := by decide +kernel
theorem dX6_draw_119 : decode cX6_draw 119 = .ok (.ldc2_w 276, 3) := by decide +kernel
theorem dX6_draw_122 : decode cX6_draw 122 = .ok (.lrem, 1) := by decide +kernel
theorem dX6_draw_123 : decode cX6_draw 123 = .ok (.invokestatic 278, 3) := by decide +kernel
theorem dX6_draw_126 : decode cX6_draw 126 = .ok (.invokevirtual 89, 3) := by decide +kernel
theorem dX6_draw_129 : decode cX6_draw 129 = .ok (.aload_n 0, 1) := by decide +kernel
theorem dX6_draw_130 : decode cX6_draw 130 = .ok (.iload 4, 2) := by decide +kernel
theorem dX6_draw_132 : decode cX6_draw 132 = .ok (.iconst 3, 1) := by decide +kernel
theorem dX6_draw_133 : decode cX6_draw 133 = .ok (.lload_n 2, 1) := by decide +kernel
theorem dX6_draw_134 : decode cX6_draw 134 = .ok (.ldc2_w 284, 3) := by decide +kernel
theorem dX6_draw_137 : decode cX6_draw 137 = .ok (.ldiv, 1) := by decide +kernel
theorem dX6_draw_138 : decode cX6_draw 138 = .ok (.ldc2_w 286, 3) := by decide +kernel
theorem dX6_draw_141 : decode cX6_draw 141 = .ok (.lrem, 1) := by decide +kernel
theorem dX6_draw_142 : decode cX6_draw 142 = .ok (.l2i, 1) := by decide +kernel
theorem dX6_draw_143 : decode cX6_draw 143 = .ok (.invokevirtual 89, 3) := by decide +kernel
theorem dX6_draw_146 : decode cX6_draw 146 = .ok (.iinc 4 1, 3) := by decide +kernel
theorem dX6_draw_149 : decode cX6_draw 149 = .ok (.goto (-96), 3) := by decide +kernel
theorem dX6_draw_152 : decode cX6_draw 152 = .ok (.iconst 0, 1) := by decide +kernel
theorem dX6_draw_153 : decode cX6_draw 153 = .ok (.ireturn, 1) := by decide +kernel
theorem dX6_back_0 : decode cX6_back 0 = .ok (.aload_n 0, 1) := by decide +kernel
theorem dX6_back_1 : decode cX6_back 1 = .ok (.getfield 66, 3) := by decide +kernel
theorem dX6_back_4 : decode cX6_back 4 = .ok (.ifCond .ne 8, 3) := by decide +kernel
theorem dX6_back_7 : decode cX6_back 7 = .ok (.aload_n 0, 1) := by decide +kernel
theorem dX6_back_8 : decode cX6_back 8 = .ok (.invokevirtual 288, 3) := by decide +kernel
theorem dX6_back_11 : decode cX6_back 11 = .ok (.ireturn, 1) := by decide +kernel
theorem dX6_back_12 : decode cX6_back 12 = .ok (.aload_n 0, 1) := by decide +kernel
theorem dX6_back_13 : decode cX6_back 13 = .ok (.dup, 1) := by decide +kernel
theorem dX6_back_14 : decode cX6_back 14 = .ok (.getfield 66, 3) := by decide +kernel
theorem dX6_back_17 : decode cX6_back 17 = .ok (.iconst 1, 1) := by decide +kernel
theorem dX6_back_18 : decode cX6_back 18 = .ok (.isub, 1) := by decide +kernel
theorem dX6_back_19 : decode cX6_back 19 = .ok (.putfield 66, 3) := by decide +kernel
theorem dX6_back_22 : decode cX6_back 22 = .ok (.iconst 0, 1) := by decide +kernel
theorem dX6_back_23 : decode cX6_back 23 = .ok (.istore_n 1, 1) := by decide +kernel
theorem dX6_back_24 : decode cX6_back 24 = .ok (.iload_n 1, 1) := by decide +kernel
theorem dX6_back_25 : decode cX6_back 25 = .ok (.bipush 58, 2) := by decide +kernel
theorem dX6_back_27 : decode cX6_back 27 = .ok (.if_icmp .ge 29, 3) := by decide +kernel
theorem dX6_back_30 : decode cX6_back 30 = .ok (.aload_n 0, 1) := by decide +kernel
theorem dX6_back_31 : decode cX6_back 31 = .ok (.getfield 7, 3) := by decide +kernel
theorem dX6_back_34 : decode cX6_back 34 = .ok (.iload_n 1, 1) := by decide +kernel
theorem dX6_back_35 : decode cX6_back 35 = .ok (.aload_n 0, 1) := by decide +kernel
theorem dX6_back_36 : decode cX6_back 36 = .ok (.getfield 13, 3) := by decide +kernel
theorem dX6_back_39 : decode cX6_back 39 = .ok (.bipush 58, 2) := by decide +kernel
theorem dX6_back_41 : decode cX6_back 41 = .ok (.aload_n 0, 1) := by decide +kernel
theorem dX6_back_42 : decode cX6_back 42 = .ok (.getfield 66, 3) := by decide +kernel
theorem dX6_back_45 : decode cX6_back 45 = .ok (.imul, 1) := by decide +kernel
theorem dX6_back_46 : decode cX6_back 46 = .ok (.iload_n 1, 1) := by decide +kernel
theorem dX6_back_47 : decode cX6_back 47 = .ok (.iadd, 1) := by decide +kernel
theorem dX6_back_48 : decode cX6_back 48 = .ok (.iaload, 1) := by decide +kernel
theorem dX6_back_49 : decode cX6_back 49 = .ok (.iastore, 1) := by decide +kernel
theorem dX6_back_50 : decode cX6_back 50 = .ok (.iinc 1 1, 3) := by decide +kernel
theorem dX6_back_53 : decode cX6_back 53 = .ok (.goto (-29), 3) := by decide +kernel
theorem dX6_back_56 : decode cX6_back 56 = .ok (.aload_n 0, 1) := by decide +kernel
theorem dX6_back_57 : decode cX6_back 57 = .ok (.getfield 66, 3) := by decide +kernel
theorem dX6_back_60 : decode cX6_back 60 = .ok (.ireturn, 1) := by decide +kernel
theorem dX6_lamps_0 : decode cX6_lamps 0 = .ok (.iconst 0, 1) := by decide +kernel
theorem dX6_lamps_1 : decode cX6_lamps 1 = .ok (.istore_n 1, 1) := by decide +kernel
theorem dX6_lamps_2 : decode cX6_lamps 2 = .ok (.iconst 0, 1) := by decide +kernel
theorem dX6_lamps_3 : decode cX6_lamps 3 = .ok (.istore_n 2, 1) := by decide +kernel
theorem dX6_lamps_4 : decode cX6_lamps 4 = .ok (.iload_n 2, 1) := by decide +kernel
theorem dX6_lamps_5 : decode cX6_lamps 5 = .ok (.bipush 8, 2) := by decide +kernel
theorem dX6_lamps_7 : decode cX6_lamps 7 = .ok (.if_icmp .ge 18, 3) := by decide +kernel
theorem dX6_lamps_10 : decode cX6_lamps 10 = .ok (.iload_n 1, 1) := by decide +kernel
theorem dX6_lamps_11 : decode cX6_lamps 11 = .ok (.aload_n 0, 1) := by decide +kernel
theorem dX6_lamps_12 : decode cX6_lamps 12 = .ok (.iload_n 2, 1) := by decide +kernel
theorem dX6_lamps_13 : decode cX6_lamps 13 = .ok (.iconst 5, 1) := by decide +kernel
theorem dX6_lamps_14 : decode cX6_lamps 14 = .ok (.invokevirtual 69, 3) := by decide +kernel
theorem dX6_lamps_17 : decode cX6_lamps 17 = .ok (.iadd, 1) := by decide +kernel
theorem dX6_lamps_18 : decode cX6_lamps 18 = .ok (.istore_n 1, 1) := by decide +kernel
theorem dX6_lamps_19 : decode cX6_lamps 19 = .ok (.iinc 2 1, 3) := by decide +kernel
theorem dX6_lamps_22 : decode cX6_lamps 22 = .ok (.goto (-18), 3) := by decide +kernel
theorem dX6_lamps_25 : decode cX6_lamps 25 = .ok (.iload_n 1, 1) := by decide +kernel
theorem dX6_lamps_26 : decode cX6_lamps 26 = .ok (.ireturn, 1) := by decide +kernel
theorem dX6_counted_0 : decode cX6_counted 0 = .ok (.iload_n 1, 1) := by decide +kernel
theorem dX6_counted_1 : decode cX6_counted 1 = .ok (.tableswitch 75 3 8 #[39, 44, 49, 57, 65, 70], 39) := by decide +kernel
theorem dX6_counted_40 : decode cX6_counted 40 = .ok (.aload_n 0, 1) := by decide +kernel
theorem dX6_counted_41 : decode cX6_counted 41 = .ok (.getfield 107, 3) := by decide +kernel
theorem dX6_counted_44 : decode cX6_counted 44 = .ok (.ireturn, 1) := by decide +kernel
theorem dX6_counted_45 : decode cX6_counted 45 = .ok (.aload_n 0, 1) := by decide +kernel
theorem dX6_counted_46 : decode cX6_counted 46 = .ok (.getfield 66, 3) := by decide +kernel
theorem dX6_counted_49 : decode cX6_counted 49 = .ok (.ireturn, 1) := by decide +kernel
theorem dX6_counted_50 : decode cX6_counted 50 = .ok (.aload_n 0, 1) := by decide +kernel
theorem dX6_counted_51 : decode cX6_counted 51 = .ok (.getfield 7, 3) := by decide +kernel
theorem dX6_counted_54 : decode cX6_counted 54 = .ok (.bipush 56, 2) := by decide +kernel
theorem dX6_counted_56 : decode cX6_counted 56 = .ok (.iaload, 1) := by decide +kernel
theorem dX6_counted_57 : decode cX6_counted 57 = .ok (.ireturn, 1) := by decide +kernel
theorem dX6_counted_58 : decode cX6_counted 58 = .ok (.aload_n 0, 1) := by decide +kernel
theorem dX6_counted_59 : decode cX6_counted 59 = .ok (.getfield 7, 3) := by decide +kernel
theorem dX6_counted_62 : decode cX6_counted 62 = .ok (.bipush 57, 2) := by decide +kernel
theorem dX6_counted_64 : decode cX6_counted 64 = .ok (.iaload, 1) := by decide +kernel
theorem dX6_counted_65 : decode cX6_counted 65 = .ok (.ireturn, 1) := by decide +kernel
theorem dX6_counted_66 : decode cX6_counted 66 = .ok (.aload_n 0, 1) := by decide +kernel
theorem dX6_counted_67 : decode cX6_counted 67 = .ok (.invokevirtual 101, 3) := by decide +kernel
theorem dX6_counted_70 : decode cX6_counted 70 = .ok (.ireturn, 1) := by decide +kernel
theorem dX6_counted_71 : decode cX6_counted 71 = .ok (.aload_n 0, 1) := by decide +kernel
theorem dX6_counted_72 : decode cX6_counted 72 = .ok (.invokevirtual 291, 3) := by decide +kernel
theorem dX6_counted_75 : decode cX6_counted 75 = .ok (.ireturn, 1) := by decide +kernel
theorem dX6_counted_76 : decode cX6_counted 76 = .ok (.aload_n 0, 1) := by decide +kernel
theorem dX6_counted_77 : decode cX6_counted 77 = .ok (.getfield 16, 3) := by decide +kernel
theorem dX6_counted_80 : decode cX6_counted 80 = .ok (.iload_n 1, 1) := by decide +kernel
theorem dX6_counted_81 : decode cX6_counted 81 = .ok (.iaload, 1) := by decide +kernel
theorem dX6_counted_82 : decode cX6_counted 82 = .ok (.ireturn, 1) := by decide +kernel
theorem dX6_count_0 : decode cX6_count 0 = .ok (.iload_n 1, 1) := by decide +kernel
theorem dX6_count_1 : decode cX6_count 1 = .ok (.i2l, 1) := by decide +kernel
theorem dX6_count_2 : decode cX6_count 2 = .ok (.lconst 0, 1) := by decide +kernel
theorem dX6_count_3 : decode cX6_count 3 = .ok (.ldc2_w 276, 3) := by decide +kernel
theorem dX6_count_6 : decode cX6_count 6 = .ok (.invokestatic 62, 3) := by decide +kernel
theorem dX6_count_9 : decode cX6_count 9 = .ok (.ifCond .eq 11, 3) := by decide +kernel
theorem dX6_count_12 : decode cX6_count 12 = .ok (.aload_n 0, 1) := by decide +kernel
theorem dX6_count_13 : decode cX6_count 13 = .ok (.iload_n 1, 1) := by decide +kernel
theorem dX6_count_14 : decode cX6_count 14 = .ok (.invokevirtual 294, 3) := by decide +kernel
theorem dX6_count_17 : decode cX6_count 17 = .ok (.goto 9, 3) := by decide +kernel
theorem dX6_count_20 : decode cX6_count 20 = .ok (.aload_n 0, 1) := by decide +kernel
theorem dX6_count_21 : decode cX6_count 21 = .ok (.bipush (-2), 2) := by decide +kernel
theorem dX6_count_23 : decode cX6_count 23 = .ok (.invokevirtual 82, 3) := by decide +kernel
theorem dX6_count_26 : decode cX6_count 26 = .ok (.ireturn, 1) := by decide +kernel
theorem dX6_digest_0 : decode cX6_digest 0 = .ok (.ldc2_w 297, 3) := by decide +kernel
theorem dX6_digest_3 : decode cX6_digest 3 = .ok (.lstore_n 1, 1) := by decide +kernel
theorem dX6_digest_4 : decode cX6_digest 4 = .ok (.iconst 0, 1) := by decide +kernel
theorem dX6_digest_5 : decode cX6_digest 5 = .ok (.istore_n 3, 1) := by decide +kernel
theorem dX6_digest_6 : decode cX6_digest 6 = .ok (.iload_n 3, 1) := by decide +kernel
theorem dX6_digest_7 : decode cX6_digest 7 = .ok (.bipush 9, 2) := by decide +kernel
theorem dX6_digest_9 : decode cX6_digest 9 = .ok (.if_icmp .ge 22, 3) := by decide +kernel
theorem dX6_digest_12 : decode cX6_digest 12 = .ok (.ldc2_w 299, 3) := by decide +kernel
theorem dX6_digest_15 : decode cX6_digest 15 = .ok (.lload_n 1, 1) := by decide +kernel
theorem dX6_digest_16 : decode cX6_digest 16 = .ok (.lmul, 1) := by decide +kernel
theorem dX6_digest_17 : decode cX6_digest 17 = .ok (.aload_n 0, 1) := by decide +kernel
theorem dX6_digest_18 : decode cX6_digest 18 = .ok (.iload_n 3, 1) := by decide +kernel
theorem dX6_digest_19 : decode cX6_digest 19 = .ok (.invokevirtual 294, 3) := by decide +kernel
theorem dX6_digest_22 : decode cX6_digest 22 = .ok (.i2l, 1) := by decide +kernel
theorem dX6_digest_23 : decode cX6_digest 23 = .ok (.ladd, 1) := by decide +kernel
theorem dX6_digest_24 : decode cX6_digest 24 = .ok (.lstore_n 1, 1) := by decide +kernel
theorem dX6_digest_25 : decode cX6_digest 25 = .ok (.iinc 3 1, 3) := by decide +kernel
theorem dX6_digest_28 : decode cX6_digest 28 = .ok (.goto (-22), 3) := by decide +kernel
theorem dX6_digest_31 : decode cX6_digest 31 = .ok (.iconst 0, 1) := by decide +kernel
theorem dX6_digest_32 : decode cX6_digest 32 = .ok (.istore_n 3, 1) := by decide +kernel
theorem dX6_digest_33 : decode cX6_digest 33 = .ok (.iload_n 3, 1) := by decide +kernel
theorem dX6_digest_34 : decode cX6_digest 34 = .ok (.bipush 8, 2) := by decide +kernel
theorem dX6_digest_36 : decode cX6_digest 36 = .ok (.if_icmp .ge 40, 3) := by decide +kernel
theorem dX6_digest_39 : decode cX6_digest 39 = .ok (.iconst 0, 1) := by decide +kernel
theorem dX6_digest_40 : decode cX6_digest 40 = .ok (.istore 4, 2) := by decide +kernel
theorem dX6_digest_42 : decode cX6_digest 42 = .ok (.iload 4, 2) := by decide +kernel
theorem dX6_digest_44 : decode cX6_digest 44 = .ok (.bipush 7, 2) := by decide +kernel
theorem dX6_digest_46 : decode cX6_digest 46 = .ok (.if_icmp .ge 24, 3) := by decide +kernel
theorem dX6_digest_49 : decode cX6_digest 49 = .ok (.ldc2_w 299, 3) := by decide +kernel
theorem dX6_digest_52 : decode cX6_digest 52 = .ok (.lload_n 1, 1) := by decide +kernel
theorem dX6_digest_53 : decode cX6_digest 53 = .ok (.lmul, 1) := by decide +kernel
theorem dX6_digest_54 : decode cX6_digest 54 = .ok (.aload_n 0, 1) := by decide +kernel
theorem dX6_digest_55 : decode cX6_digest 55 = .ok (.iload_n 3, 1) := by decide +kernel
theorem dX6_digest_56 : decode cX6_digest 56 = .ok (.iload 4, 2) := by decide +kernel
theorem dX6_digest_58 : decode cX6_digest 58 = .ok (.invokevirtual 96, 3) := by decide +kernel
theorem dX6_digest_61 : decode cX6_digest 61 = .ok (.i2l, 1) := by decide +kernel
theorem dX6_digest_62 : decode cX6_digest 62 = .ok (.ladd, 1) := by decide +kernel
theorem dX6_digest_63 : decode cX6_digest 63 = .ok (.lstore_n 1, 1) := by decide +kernel
theorem dX6_digest_64 : decode cX6_digest 64 = .ok (.iinc 4 1, 3) := by decide +kernel
theorem dX6_digest_67 : decode cX6_digest 67 = .ok (.goto (-25), 3) := by decide +kernel
theorem dX6_digest_70 : decode cX6_digest 70 = .ok (.iinc 3 1, 3) := by decide +kernel
theorem dX6_digest_73 : decode cX6_digest 73 = .ok (.goto (-40), 3) := by decide +kernel
theorem dX6_digest_76 : decode cX6_digest 76 = .ok (.iconst 0, 1) := by decide +kernel
theorem dX6_digest_77 : decode cX6_digest 77 = .ok (.istore_n 3, 1) := by decide +kernel
theorem dX6_digest_78 : decode cX6_digest 78 = .ok (.iload_n 3, 1) := by decide +kernel
theorem dX6_digest_79 : decode cX6_digest 79 = .ok (.bipush 8, 2) := by decide +kernel
theorem dX6_digest_81 : decode cX6_digest 81 = .ok (.if_icmp .ge 22, 3) := by decide +kernel
theorem dX6_digest_84 : decode cX6_digest 84 = .ok (.ldc2_w 299, 3) := by decide +kernel
theorem dX6_digest_87 : decode cX6_digest 87 = .ok (.lload_n 1, 1) := by decide +kernel
theorem dX6_digest_88 : decode cX6_digest 88 = .ok (.lmul, 1) := by decide +kernel
theorem dX6_digest_89 : decode cX6_digest 89 = .ok (.aload_n 0, 1) := by decide +kernel
theorem dX6_digest_90 : decode cX6_digest 90 = .ok (.iload_n 3, 1) := by decide +kernel
theorem dX6_digest_91 : decode cX6_digest 91 = .ok (.invokevirtual 247, 3) := by decide +kernel
theorem dX6_digest_94 : decode cX6_digest 94 = .ok (.i2l, 1) := by decide +kernel
theorem dX6_digest_95 : decode cX6_digest 95 = .ok (.ladd, 1) := by decide +kernel
theorem dX6_digest_96 : decode cX6_digest 96 = .ok (.lstore_n 1, 1) := by decide +kernel
theorem dX6_digest_97 : decode cX6_digest 97 = .ok (.iinc 3 1, 3) := by decide +kernel
theorem dX6_digest_100 : decode cX6_digest 100 = .ok (.goto (-22), 3) := by decide +kernel
theorem dX6_digest_103 : decode cX6_digest 103 = .ok (.ldc2_w 299, 3) := by decide +kernel
theorem dX6_digest_106 : decode cX6_digest 106 = .ok (.lload_n 1, 1) := by decide +kernel
theorem dX6_digest_107 : decode cX6_digest 107 = .ok (.lmul, 1) := by decide +kernel
theorem dX6_digest_108 : decode cX6_digest 108 = .ok (.aload_n 0, 1) := by decide +kernel
theorem dX6_digest_109 : decode cX6_digest 109 = .ok (.getfield 229, 3) := by decide +kernel
theorem dX6_digest_112 : decode cX6_digest 112 = .ok (.i2l, 1) := by decide +kernel
theorem dX6_digest_113 : decode cX6_digest 113 = .ok (.ladd, 1) := by decide +kernel
theorem dX6_digest_114 : decode cX6_digest 114 = .ok (.lstore_n 1, 1) := by decide +kernel
theorem dX6_digest_115 : decode cX6_digest 115 = .ok (.iconst 0, 1) := by decide +kernel
theorem dX6_digest_116 : decode cX6_digest 116 = .ok (.istore_n 3, 1) := by decide +kernel
theorem dX6_digest_117 : decode cX6_digest 117 = .ok (.iload_n 3, 1) := by decide +kernel
theorem dX6_digest_118 : decode cX6_digest 118 = .ok (.aload_n 0, 1) := by decide +kernel
theorem dX6_digest_119 : decode cX6_digest 119 = .ok (.getfield 229, 3) := by decide +kernel
theorem dX6_digest_122 : decode cX6_digest 122 = .ok (.if_icmp .ge 23, 3) := by decide +kernel
theorem dX6_digest_125 : decode cX6_digest 125 = .ok (.ldc2_w 299, 3) := by decide +kernel
theorem dX6_digest_128 : decode cX6_digest 128 = .ok (.lload_n 1, 1) := by decide +kernel
theorem dX6_digest_129 : decode cX6_digest 129 = .ok (.lmul, 1) := by decide +kernel
theorem dX6_digest_130 : decode cX6_digest 130 = .ok (.aload_n 0, 1) := by decide +kernel
theorem dX6_digest_131 : decode cX6_digest 131 = .ok (.getfield 54, 3) := by decide +kernel
theorem dX6_digest_134 : decode cX6_digest 134 = .ok (.iload_n 3, 1) := by decide +kernel
theorem dX6_digest_135 : decode cX6_digest 135 = .ok (.iaload, 1) := by decide +kernel
theorem dX6_digest_136 : decode cX6_digest 136 = .ok (.i2l, 1) := by decide +kernel
theorem dX6_digest_137 : decode cX6_digest 137 = .ok (.ladd, 1) := by decide +kernel
theorem dX6_digest_138 : decode cX6_digest 138 = .ok (.lstore_n 1, 1) := by decide +kernel
theorem dX6_digest_139 : decode cX6_digest 139 = .ok (.iinc 3 1, 3) := by decide +kernel
theorem dX6_digest_142 : decode cX6_digest 142 = .ok (.goto (-25), 3) := by decide +kernel
theorem dX6_digest_145 : decode cX6_digest 145 = .ok (.lload_n 1, 1) := by decide +kernel
theorem dX6_digest_146 : decode cX6_digest 146 = .ok (.lreturn, 1) := by decide +kernel
theorem dJ9_max_7cf53_0 : decode cJ9_max_7cf53 0 = .ok (.iload_n 0, 1) := by decide +kernel
theorem dJ9_max_7cf53_1 : decode cJ9_max_7cf53 1 = .ok (.iload_n 1, 1) := by decide +kernel
theorem dJ9_max_7cf53_2 : decode cJ9_max_7cf53 2 = .ok (.if_icmp .lt 7, 3) := by decide +kernel
theorem dJ9_max_7cf53_5 : decode cJ9_max_7cf53 5 = .ok (.iload_n 0, 1) := by decide +kernel
theorem dJ9_max_7cf53_6 : decode cJ9_max_7cf53 6 = .ok (.goto 4, 3) := by decide +kernel
theorem dJ9_max_7cf53_9 : decode cJ9_max_7cf53 9 = .ok (.iload_n 1, 1) := by decide +kernel
theorem dJ9_max_7cf53_10 : decode cJ9_max_7cf53 10 = .ok (.ireturn, 1) := by decide +kernel
theorem dJ9_min_7cf53_0 : decode cJ9_min_7cf53 0 = .ok (.iload_n 0, 1) := by decide +kernel
theorem dJ9_min_7cf53_1 : decode cJ9_min_7cf53 1 = .ok (.iload_n 1, 1) := by decide +kernel
theorem dJ9_min_7cf53_2 : decode cJ9_min_7cf53 2 = .ok (.if_icmp .gt 7, 3) := by decide +kernel
theorem dJ9_min_7cf53_5 : decode cJ9_min_7cf53 5 = .ok (.iload_n 0, 1) := by decide +kernel
theorem dJ9_min_7cf53_6 : decode cJ9_min_7cf53 6 = .ok (.goto 4, 3) := by decide +kernel
theorem dJ9_min_7cf53_9 : decode cJ9_min_7cf53 9 = .ok (.iload_n 1, 1) := by decide +kernel
theorem dJ9_min_7cf53_10 : decode cJ9_min_7cf53 10 = .ok (.ireturn, 1) := by decide +kernel
theorem dJ7_fill_53178_0 : decode cJ7_fill_53178 0 = .ok (.iconst 0, 1) := by decide +kernel
theorem dJ7_fill_53178_1 : decode cJ7_fill_53178 1 = .ok (.istore_n 2, 1) := by decide +kernel
theorem dJ7_fill_53178_2 : decode cJ7_fill_53178 2 = .ok (.aload_n 0, 1) := by decide +kernel
theorem dJ7_fill_53178_3 : decode cJ7_fill_53178 3 = .ok (.arraylength, 1) := by decide +kernel
theorem dJ7_fill_53178_4 : decode cJ7_fill_53178 4 = .ok (.istore_n 3, 1) := by decide +kernel
theorem dJ7_fill_53178_5 : decode cJ7_fill_53178 5 = .ok (.iload_n 2, 1) := by decide +kernel
theorem dJ7_fill_53178_6 : decode cJ7_fill_53178 6 = .ok (.iload_n 3, 1) := by decide +kernel
theorem dJ7_fill_53178_7 : decode cJ7_fill_53178 7 = .ok (.if_icmp .ge 13, 3) := by decide +kernel
theorem dJ7_fill_53178_10 : decode cJ7_fill_53178 10 = .ok (.aload_n 0, 1) := by decide +kernel
theorem dJ7_fill_53178_11 : decode cJ7_fill_53178 11 = .ok (.iload_n 2, 1) := by decide +kernel
theorem dJ7_fill_53178_12 : decode cJ7_fill_53178 12 = .ok (.iload_n 1, 1) := by decide +kernel
theorem dJ7_fill_53178_13 : decode cJ7_fill_53178 13 = .ok (.iastore, 1) := by decide +kernel
theorem dJ7_fill_53178_14 : decode cJ7_fill_53178 14 = .ok (.iinc 2 1, 3) := by decide +kernel
theorem dJ7_fill_53178_17 : decode cJ7_fill_53178 17 = .ok (.goto (-12), 3) := by decide +kernel
theorem dJ7_fill_53178_20 : decode cJ7_fill_53178 20 = .ok (.return_, 1) := by decide +kernel
theorem dL_law_0 : decode cL_law 0 = .ok (.new 7, 3) := by decide +kernel
theorem dL_law_3 : decode cL_law 3 = .ok (.dup, 1) := by decide +kernel
theorem dL_law_4 : decode cL_law 4 = .ok (.invokespecial 9, 3) := by decide +kernel
theorem dL_law_7 : decode cL_law 7 = .ok (.astore_n 1, 1) := by decide +kernel
theorem dL_law_8 : decode cL_law 8 = .ok (.new 10, 3) := by decide +kernel
theorem dL_law_11 : decode cL_law 11 = .ok (.dup, 1) := by decide +kernel
theorem dL_law_12 : decode cL_law 12 = .ok (.invokespecial 12, 3) := by decide +kernel
theorem dL_law_15 : decode cL_law 15 = .ok (.astore_n 2, 1) := by decide +kernel
theorem dL_law_16 : decode cL_law 16 = .ok (.iconst 0, 1) := by decide +kernel
theorem dL_law_17 : decode cL_law 17 = .ok (.istore_n 3, 1) := by decide +kernel
theorem dL_law_18 : decode cL_law 18 = .ok (.iload_n 3, 1) := by decide +kernel
theorem dL_law_19 : decode cL_law 19 = .ok (.aload_n 0, 1) := by decide +kernel
theorem dL_law_20 : decode cL_law 20 = .ok (.arraylength, 1) := by decide +kernel
theorem dL_law_21 : decode cL_law 21 = .ok (.iconst 4, 1) := by decide +kernel
theorem dL_law_22 : decode cL_law 22 = .ok (.isub, 1) := by decide +kernel
theorem dL_law_23 : decode cL_law 23 = .ok (.if_icmp .gt 576, 3) := by decide +kernel
theorem dL_law_26 : decode cL_law 26 = .ok (.aload_n 0, 1) := by decide +kernel
theorem dL_law_27 : decode cL_law 27 = .ok (.iload_n 3, 1) := by decide +kernel
theorem dL_law_28 : decode cL_law 28 = .ok (.iaload, 1) := by decide +kernel
theorem dL_law_29 : decode cL_law 29 = .ok (.bipush 31, 2) := by decide +kernel
theorem dL_law_31 : decode cL_law 31 = .ok (.iand, 1) := by decide +kernel
theorem dL_law_32 : decode cL_law 32 = .ok (.tableswitch 561 0 21 #[104, 147, 180, 203, 216, 239, 252, 265, 278, 301, 324, 337, 360, 373, 386, 419, 442, 465, 488, 511, 524, 547], 104) := by decide +kernel
theorem dL_law_136 : decode cL_law 136 = .ok (.aload_n 1, 1) := by decide +kernel
theorem dL_law_137 : decode cL_law 137 = .ok (.aload_n 0, 1) := by decide +kernel
theorem dL_law_138 : decode cL_law 138 = .ok (.iload_n 3, 1) := by decide +kernel
theorem dL_law_139 : decode cL_law 139 = .ok (.iconst 1, 1) := by decide +kernel
theorem dL_law_140 : decode cL_law 140 = .ok (.iadd, 1) := by decide +kernel
theorem dL_law_141 : decode cL_law 141 = .ok (.iaload, 1) := by decide +kernel
theorem dL_law_142 : decode cL_law 142 = .ok (.aload_n 0, 1) := by decide +kernel
theorem dL_law_143 : decode cL_law 143 = .ok (.iload_n 3, 1) := by decide +kernel
theorem dL_law_144 : decode cL_law 144 = .ok (.iconst 2, 1) := by decide +kernel
theorem dL_law_145 : decode cL_law 145 = .ok (.iadd, 1) := by decide +kernel
theorem dL_law_146 : decode cL_law 146 = .ok (.iaload, 1) := by decide +kernel
theorem dL_law_147 : decode cL_law 147 = .ok (.aload_n 0, 1) := by decide +kernel
theorem dL_law_148 : decode cL_law 148 = .ok (.iload_n 3, 1) := by decide +kernel
theorem dL_law_149 : decode cL_law 149 = .ok (.iconst 3, 1) := by decide +kernel
theorem dL_law_150 : decode cL_law 150 = .ok (.iadd, 1) := by decide +kernel
theorem dL_law_151 : decode cL_law 151 = .ok (.iaload, 1) := by decide +kernel
theorem dL_law_152 : decode cL_law 152 = .ok (.invokevirtual 13, 3) := by decide +kernel
theorem dL_law_155 : decode cL_law 155 = .ok (.aload_n 2, 1) := by decide +kernel
theorem dL_law_156 : decode cL_law 156 = .ok (.aload_n 0, 1) := by decide +kernel
theorem dL_law_157 : decode cL_law 157 = .ok (.iload_n 3, 1) := by decide +kernel
theorem dL_law_158 : decode cL_law 158 = .ok (.iconst 1, 1) := by decide +kernel
theorem dL_law_159 : decode cL_law 159 = .ok (.iadd, 1) := by decide +kernel
theorem dL_law_160 : decode cL_law 160 = .ok (.iaload, 1) := by decide +kernel
theorem dL_law_161 : decode cL_law 161 = .ok (.aload_n 0, 1) := by decide +kernel
theorem dL_law_162 : decode cL_law 162 = .ok (.iload_n 3, 1) := by decide +kernel
theorem dL_law_163 : decode cL_law 163 = .ok (.iconst 2, 1) := by decide +kernel
theorem dL_law_164 : decode cL_law 164 = .ok (.iadd, 1) := by decide +kernel
theorem dL_law_165 : decode cL_law 165 = .ok (.iaload, 1) := by decide +kernel
theorem dL_law_166 : decode cL_law 166 = .ok (.aload_n 0, 1) := by decide +kernel
theorem dL_law_167 : decode cL_law 167 = .ok (.iload_n 3, 1) := by decide +kernel
theorem dL_law_168 : decode cL_law 168 = .ok (.iconst 3, 1) := by decide +kernel
theorem dL_law_169 : decode cL_law 169 = .ok (.iadd, 1) := by decide +kernel
theorem dL_law_170 : decode cL_law 170 = .ok (.iaload, 1) := by decide +kernel
theorem dL_law_171 : decode cL_law 171 = .ok (.invokevirtual 17, 3) := by decide +kernel
theorem dL_law_174 : decode cL_law 174 = .ok (.if_icmp .eq 419, 3) := by decide +kernel
theorem dL_law_177 : decode cL_law 177 = .ok (.iconst 0, 1) := by decide +kernel
theorem dL_law_178 : decode cL_law 178 = .ok (.ireturn, 1) := by decide +kernel
theorem dL_law_179 : decode cL_law 179 = .ok (.aload_n 1, 1) := by decide +kernel
theorem dL_law_180 : decode cL_law 180 = .ok (.aload_n 0, 1) := by decide +kernel
theorem dL_law_181 : decode cL_law 181 = .ok (.iload_n 3, 1) := by decide +kernel
theorem dL_law_182 : decode cL_law 182 = .ok (.iconst 1, 1) := by decide +kernel
theorem dL_law_183 : decode cL_law 183 = .ok (.iadd, 1) := by decide +kernel
theorem dL_law_184 : decode cL_law 184 = .ok (.iaload, 1) := by decide +kernel
theorem dL_law_185 : decode cL_law 185 = .ok (.aload_n 0, 1) := by decide +kernel
theorem dL_law_186 : decode cL_law 186 = .ok (.iload_n 3, 1) := by decide +kernel
theorem dL_law_187 : decode cL_law 187 = .ok (.iconst 2, 1) := by decide +kernel
theorem dL_law_188 : decode cL_law 188 = .ok (.iadd, 1) := by decide +kernel
theorem dL_law_189 : decode cL_law 189 = .ok (.iaload, 1) := by decide +kernel
theorem dL_law_190 : decode cL_law 190 = .ok (.invokevirtual 18, 3) := by decide +kernel
theorem dL_law_193 : decode cL_law 193 = .ok (.aload_n 2, 1) := by decide +kernel
theorem dL_law_194 : decode cL_law 194 = .ok (.aload_n 0, 1) := by decide +kernel
theorem dL_law_195 : decode cL_law 195 = .ok (.iload_n 3, 1) := by decide +kernel
theorem dL_law_196 : decode cL_law 196 = .ok (.iconst 1, 1) := by decide +kernel
theorem dL_law_197 : decode cL_law 197 = .ok (.iadd, 1) := by decide +kernel
theorem dL_law_198 : decode cL_law 198 = .ok (.iaload, 1) := by decide +kernel
theorem dL_law_199 : decode cL_law 199 = .ok (.aload_n 0, 1) := by decide +kernel
theorem dL_law_200 : decode cL_law 200 = .ok (.iload_n 3, 1) := by decide +kernel
theorem dL_law_201 : decode cL_law 201 = .ok (.iconst 2, 1) := by decide +kernel
theorem dL_law_202 : decode cL_law 202 = .ok (.iadd, 1) := by decide +kernel
theorem dL_law_203 : decode cL_law 203 = .ok (.iaload, 1) := by decide +kernel
theorem dL_law_204 : decode cL_law 204 = .ok (.invokevirtual 22, 3) := by decide +kernel
theorem dL_law_207 : decode cL_law 207 = .ok (.if_icmp .eq 386, 3) := by decide +kernel
theorem dL_law_210 : decode cL_law 210 = .ok (.iconst 0, 1) := by decide +kernel
theorem dL_law_211 : decode cL_law 211 = .ok (.ireturn, 1) := by decide +kernel
theorem dL_law_212 : decode cL_law 212 = .ok (.aload_n 1, 1) := by decide +kernel
theorem dL_law_213 : decode cL_law 213 = .ok (.aload_n 0, 1) := by decide +kernel
theorem dL_law_214 : decode cL_law 214 = .ok (.iload_n 3, 1) := by decide +kernel
theorem dL_law_215 : decode cL_law 215 = .ok (.iconst 1, 1) := by decide +kernel
theorem dL_law_216 : decode cL_law 216 = .ok (.iadd, 1) := by decide +kernel
theorem dL_law_217 : decode cL_law 217 = .ok (.iaload, 1) := by decide +kernel
theorem dL_law_218 : decode cL_law 218 = .ok (.invokevirtual 23, 3) := by decide +kernel
theorem dL_law_221 : decode cL_law 221 = .ok (.aload_n 2, 1) := by decide +kernel
theorem dL_law_222 : decode cL_law 222 = .ok (.aload_n 0, 1) := by decide +kernel
theorem dL_law_223 : decode cL_law 223 = .ok (.iload_n 3, 1) := by decide +kernel
theorem dL_law_224 : decode cL_law 224 = .ok (.iconst 1, 1) := by decide +kernel
theorem dL_law_225 : decode cL_law 225 = .ok (.iadd, 1) := by decide +kernel
theorem dL_law_226 : decode cL_law 226 = .ok (.iaload, 1) := by decide +kernel
theorem dL_law_227 : decode cL_law 227 = .ok (.invokevirtual 27, 3) := by decide +kernel
theorem dL_law_230 : decode cL_law 230 = .ok (.if_icmp .eq 363, 3) := by decide +kernel
theorem dL_law_233 : decode cL_law 233 = .ok (.iconst 0, 1) := by decide +kernel
theorem dL_law_234 : decode cL_law 234 = .ok (.ireturn, 1) := by decide +kernel
theorem dL_law_235 : decode cL_law 235 = .ok (.aload_n 1, 1) := by decide +kernel
theorem dL_law_236 : decode cL_law 236 = .ok (.invokevirtual 28, 3) := by decide +kernel
theorem dL_law_239 : decode cL_law 239 = .ok (.aload_n 2, 1) := by decide +kernel
theorem dL_law_240 : decode cL_law 240 = .ok (.invokevirtual 32, 3) := by decide +kernel
theorem dL_law_243 : decode cL_law 243 = .ok (.if_icmp .eq 350, 3) := by decide +kernel
theorem dL_law_246 : decode cL_law 246 = .ok (.iconst 0, 1) := by decide +kernel
theorem dL_law_247 : decode cL_law 247 = .ok (.ireturn, 1) := by decide +kernel
theorem dL_law_248 : decode cL_law 248 = .ok (.aload_n 1, 1) := by decide +kernel
theorem dL_law_249 : decode cL_law 249 = .ok (.aload_n 0, 1) := by decide +kernel
theorem dL_law_250 : decode cL_law 250 = .ok (.iload_n 3, 1) := by decide +kernel
theorem dL_law_251 : decode cL_law 251 = .ok (.iconst 1, 1) := by decide +kernel
theorem dL_law_252 : decode cL_law 252 = .ok (.iadd, 1) := by decide +kernel
theorem dL_law_253 : decode cL_law 253 = .ok (.iaload, 1) := by decide +kernel
theorem dL_law_254 : decode cL_law 254 = .ok (.invokevirtual 33, 3) := by decide +kernel
theorem dL_law_257 : decode cL_law 257 = .ok (.aload_n 2, 1) := by decide +kernel
theorem dL_law_258 : decode cL_law 258 = .ok (.aload_n 0, 1) := by decide +kernel
theorem dL_law_259 : decode cL_law 259 = .ok (.iload_n 3, 1) := by decide +kernel
theorem dL_law_260 : decode cL_law 260 = .ok (.iconst 1, 1) := by decide +kernel
theorem dL_law_261 : decode cL_law 261 = .ok (.iadd, 1) := by decide +kernel
theorem dL_law_262 : decode cL_law 262 = .ok (.iaload, 1) := by decide +kernel
theorem dL_law_263 : decode cL_law 263 = .ok (.invokevirtual 36, 3) := by decide +kernel
theorem dL_law_266 : decode cL_law 266 = .ok (.if_icmp .eq 327, 3) := by decide +kernel
theorem dL_law_269 : decode cL_law 269 = .ok (.iconst 0, 1) := by decide +kernel
theorem dL_law_270 : decode cL_law 270 = .ok (.ireturn, 1) := by decide +kernel
theorem dL_law_271 : decode cL_law 271 = .ok (.aload_n 1, 1) := by decide +kernel
theorem dL_law_272 : decode cL_law 272 = .ok (.invokevirtual 37, 3) := by decide +kernel
theorem dL_law_275 : decode cL_law 275 = .ok (.aload_n 2, 1) := by decide +kernel
theorem dL_law_276 : decode cL_law 276 = .ok (.invokevirtual 40, 3) := by decide +kernel
theorem dL_law_279 : decode cL_law 279 = .ok (.if_icmp .eq 314, 3) := by decide +kernel
theorem dL_law_282 : decode cL_law 282 = .ok (.iconst 0, 1) := by decide +kernel
theorem dL_law_283 : decode cL_law 283 = .ok (.ireturn, 1) := by decide +kernel
theorem dL_law_284 : decode cL_law 284 = .ok (.aload_n 1, 1) := by decide +kernel
theorem dL_law_285 : decode cL_law 285 = .ok (.invokevirtual 41, 3) := by decide +kernel
theorem dL_law_288 : decode cL_law 288 = .ok (.aload_n 2, 1) := by decide +kernel
theorem dL_law_289 : decode cL_law 289 = .ok (.invokevirtual 44, 3) := by decide +kernel
theorem dL_law_292 : decode cL_law 292 = .ok (.if_icmp .eq 301, 3) := by decide +kernel
theorem dL_law_295 : decode cL_law 295 = .ok (.iconst 0, 1) := by decide +kernel
theorem dL_law_296 : decode cL_law 296 = .ok (.ireturn, 1) := by decide +kernel
theorem dL_law_297 : decode cL_law 297 = .ok (.aload_n 1, 1) := by decide +kernel
theorem dL_law_298 : decode cL_law 298 = .ok (.invokevirtual 45, 3) := by decide +kernel
theorem dL_law_301 : decode cL_law 301 = .ok (.aload_n 2, 1) := by decide +kernel
theorem dL_law_302 : decode cL_law 302 = .ok (.invokevirtual 48, 3) := by decide +kernel
theorem dL_law_305 : decode cL_law 305 = .ok (.if_icmp .eq 288, 3) := by decide +kernel
theorem dL_law_308 : decode cL_law 308 = .ok (.iconst 0, 1) := by decide +kernel
theorem dL_law_309 : decode cL_law 309 = .ok (.ireturn, 1) := by decide +kernel
theorem dL_law_310 : decode cL_law 310 = .ok (.aload_n 1, 1) := by decide +kernel
theorem dL_law_311 : decode cL_law 311 = .ok (.aload_n 0, 1) := by decide +kernel
theorem dL_law_312 : decode cL_law 312 = .ok (.iload_n 3, 1) := by decide +kernel
theorem dL_law_313 : decode cL_law 313 = .ok (.iconst 1, 1) := by decide +kernel
theorem dL_law_314 : decode cL_law 314 = .ok (.iadd, 1) := by decide +kernel
theorem dL_law_315 : decode cL_law 315 = .ok (.iaload, 1) := by decide +kernel
theorem dL_law_316 : decode cL_law 316 = .ok (.invokevirtual 49, 3) := by decide +kernel
theorem dL_law_319 : decode cL_law 319 = .ok (.aload_n 2, 1) := by decide +kernel
theorem dL_law_320 : decode cL_law 320 = .ok (.aload_n 0, 1) := by decide +kernel
theorem dL_law_321 : decode cL_law 321 = .ok (.iload_n 3, 1) := by decide +kernel
theorem dL_law_322 : decode cL_law 322 = .ok (.iconst 1, 1) := by decide +kernel
theorem dL_law_323 : decode cL_law 323 = .ok (.iadd, 1) := by decide +kernel
theorem dL_law_324 : decode cL_law 324 = .ok (.iaload, 1) := by decide +kernel
theorem dL_law_325 : decode cL_law 325 = .ok (.invokevirtual 52, 3) := by decide +kernel
theorem dL_law_328 : decode cL_law 328 = .ok (.if_icmp .eq 265, 3) := by decide +kernel
theorem dL_law_331 : decode cL_law 331 = .ok (.iconst 0, 1) := by decide +kernel
theorem dL_law_332 : decode cL_law 332 = .ok (.ireturn, 1) := by decide +kernel
theorem dL_law_333 : decode cL_law 333 = .ok (.aload_n 1, 1) := by decide +kernel
theorem dL_law_334 : decode cL_law 334 = .ok (.aload_n 0, 1) := by decide +kernel
theorem dL_law_335 : decode cL_law 335 = .ok (.iload_n 3, 1) := by decide +kernel
theorem dL_law_336 : decode cL_law 336 = .ok (.iconst 1, 1) := by decide +kernel
theorem dL_law_337 : decode cL_law 337 = .ok (.iadd, 1) := by decide +kernel
theorem dL_law_338 : decode cL_law 338 = .ok (.iaload, 1) := by decide +kernel
theorem dL_law_339 : decode cL_law 339 = .ok (.invokevirtual 53, 3) := by decide +kernel
theorem dL_law_342 : decode cL_law 342 = .ok (.aload_n 2, 1) := by decide +kernel
theorem dL_law_343 : decode cL_law 343 = .ok (.aload_n 0, 1) := by decide +kernel
theorem dL_law_344 : decode cL_law 344 = .ok (.iload_n 3, 1) := by decide +kernel
theorem dL_law_345 : decode cL_law 345 = .ok (.iconst 1, 1) := by decide +kernel
theorem dL_law_346 : decode cL_law 346 = .ok (.iadd, 1) := by decide +kernel
theorem dL_law_347 : decode cL_law 347 = .ok (.iaload, 1) := by decide +kernel
theorem dL_law_348 : decode cL_law 348 = .ok (.invokevirtual 56, 3) := by decide +kernel
theorem dL_law_351 : decode cL_law 351 = .ok (.if_icmp .eq 242, 3) := by decide +kernel
theorem dL_law_354 : decode cL_law 354 = .ok (.iconst 0, 1) := by decide +kernel
theorem dL_law_355 : decode cL_law 355 = .ok (.ireturn, 1) := by decide +kernel
theorem dL_law_356 : decode cL_law 356 = .ok (.aload_n 1, 1) := by decide +kernel
theorem dL_law_357 : decode cL_law 357 = .ok (.invokevirtual 57, 3) := by decide +kernel
theorem dL_law_360 : decode cL_law 360 = .ok (.aload_n 2, 1) := by decide +kernel
theorem dL_law_361 : decode cL_law 361 = .ok (.invokevirtual 60, 3) := by decide +kernel
theorem dL_law_364 : decode cL_law 364 = .ok (.if_icmp .eq 229, 3) := by decide +kernel
theorem dL_law_367 : decode cL_law 367 = .ok (.iconst 0, 1) := by decide +kernel
theorem dL_law_368 : decode cL_law 368 = .ok (.ireturn, 1) := by decide +kernel
theorem dL_law_369 : decode cL_law 369 = .ok (.aload_n 1, 1) := by decide +kernel
theorem dL_law_370 : decode cL_law 370 = .ok (.aload_n 0, 1) := by decide +kernel
theorem dL_law_371 : decode cL_law 371 = .ok (.iload_n 3, 1) := by decide +kernel
theorem dL_law_372 : decode cL_law 372 = .ok (.iconst 1, 1) := by decide +kernel
theorem dL_law_373 : decode cL_law 373 = .ok (.iadd, 1) := by decide +kernel
theorem dL_law_374 : decode cL_law 374 = .ok (.iaload, 1) := by decide +kernel
theorem dL_law_375 : decode cL_law 375 = .ok (.invokevirtual 61, 3) := by decide +kernel
theorem dL_law_378 : decode cL_law 378 = .ok (.aload_n 2, 1) := by decide +kernel
theorem dL_law_379 : decode cL_law 379 = .ok (.aload_n 0, 1) := by decide +kernel
theorem dL_law_380 : decode cL_law 380 = .ok (.iload_n 3, 1) := by decide +kernel
theorem dL_law_381 : decode cL_law 381 = .ok (.iconst 1, 1) := by decide +kernel
theorem dL_law_382 : decode cL_law 382 = .ok (.iadd, 1) := by decide +kernel
theorem dL_law_383 : decode cL_law 383 = .ok (.iaload, 1) := by decide +kernel
theorem dL_law_384 : decode cL_law 384 = .ok (.invokevirtual 64, 3) := by decide +kernel
theorem dL_law_387 : decode cL_law 387 = .ok (.if_icmp .eq 206, 3) := by decide +kernel
theorem dL_law_390 : decode cL_law 390 = .ok (.iconst 0, 1) := by decide +kernel
theorem dL_law_391 : decode cL_law 391 = .ok (.ireturn, 1) := by decide +kernel
theorem dL_law_392 : decode cL_law 392 = .ok (.aload_n 1, 1) := by decide +kernel
theorem dL_law_393 : decode cL_law 393 = .ok (.invokevirtual 65, 3) := by decide +kernel
theorem dL_law_396 : decode cL_law 396 = .ok (.aload_n 2, 1) := by decide +kernel
theorem dL_law_397 : decode cL_law 397 = .ok (.invokevirtual 68, 3) := by decide +kernel
theorem dL_law_400 : decode cL_law 400 = .ok (.if_icmp .eq 193, 3) := by decide +kernel
theorem dL_law_403 : decode cL_law 403 = .ok (.iconst 0, 1) := by decide +kernel
theorem dL_law_404 : decode cL_law 404 = .ok (.ireturn, 1) := by decide +kernel
theorem dL_law_405 : decode cL_law 405 = .ok (.aload_n 1, 1) := by decide +kernel
theorem dL_law_406 : decode cL_law 406 = .ok (.invokevirtual 69, 3) := by decide +kernel
theorem dL_law_409 : decode cL_law 409 = .ok (.aload_n 2, 1) := by decide +kernel
theorem dL_law_410 : decode cL_law 410 = .ok (.invokevirtual 72, 3) := by decide +kernel
theorem dL_law_413 : decode cL_law 413 = .ok (.if_icmp .eq 180, 3) := by decide +kernel
theorem dL_law_416 : decode cL_law 416 = .ok (.iconst 0, 1) := by decide +kernel
theorem dL_law_417 : decode cL_law 417 = .ok (.ireturn, 1) := by decide +kernel
theorem dL_law_418 : decode cL_law 418 = .ok (.aload_n 1, 1) := by decide +kernel
theorem dL_law_419 : decode cL_law 419 = .ok (.aload_n 0, 1) := by decide +kernel
theorem dL_law_420 : decode cL_law 420 = .ok (.iload_n 3, 1) := by decide +kernel
theorem dL_law_421 : decode cL_law 421 = .ok (.iconst 1, 1) := by decide +kernel
theorem dL_law_422 : decode cL_law 422 = .ok (.iadd, 1) := by decide +kernel
theorem dL_law_423 : decode cL_law 423 = .ok (.iaload, 1) := by decide +kernel
theorem dL_law_424 : decode cL_law 424 = .ok (.aload_n 0, 1) := by decide +kernel
theorem dL_law_425 : decode cL_law 425 = .ok (.iload_n 3, 1) := by decide +kernel
theorem dL_law_426 : decode cL_law 426 = .ok (.iconst 2, 1) := by decide +kernel
theorem dL_law_427 : decode cL_law 427 = .ok (.iadd, 1) := by decide +kernel
theorem dL_law_428 : decode cL_law 428 = .ok (.iaload, 1) := by decide +kernel
theorem dL_law_429 : decode cL_law 429 = .ok (.invokevirtual 73, 3) := by decide +kernel
theorem dL_law_432 : decode cL_law 432 = .ok (.aload_n 2, 1) := by decide +kernel
theorem dL_law_433 : decode cL_law 433 = .ok (.aload_n 0, 1) := by decide +kernel
theorem dL_law_434 : decode cL_law 434 = .ok (.iload_n 3, 1) := by decide +kernel
theorem dL_law_435 : decode cL_law 435 = .ok (.iconst 1, 1) := by decide +kernel
theorem dL_law_436 : decode cL_law 436 = .ok (.iadd, 1) := by decide +kernel
theorem dL_law_437 : decode cL_law 437 = .ok (.iaload, 1) := by decide +kernel
theorem dL_law_438 : decode cL_law 438 = .ok (.aload_n 0, 1) := by decide +kernel
theorem dL_law_439 : decode cL_law 439 = .ok (.iload_n 3, 1) := by decide +kernel
theorem dL_law_440 : decode cL_law 440 = .ok (.iconst 2, 1) := by decide +kernel
theorem dL_law_441 : decode cL_law 441 = .ok (.iadd, 1) := by decide +kernel
theorem dL_law_442 : decode cL_law 442 = .ok (.iaload, 1) := by decide +kernel
theorem dL_law_443 : decode cL_law 443 = .ok (.invokevirtual 76, 3) := by decide +kernel
theorem dL_law_446 : decode cL_law 446 = .ok (.if_icmp .eq 147, 3) := by decide +kernel
theorem dL_law_449 : decode cL_law 449 = .ok (.iconst 0, 1) := by decide +kernel
theorem dL_law_450 : decode cL_law 450 = .ok (.ireturn, 1) := by decide +kernel
theorem dL_law_451 : decode cL_law 451 = .ok (.aload_n 1, 1) := by decide +kernel
theorem dL_law_452 : decode cL_law 452 = .ok (.aload_n 0, 1) := by decide +kernel
theorem dL_law_453 : decode cL_law 453 = .ok (.iload_n 3, 1) := by decide +kernel
theorem dL_law_454 : decode cL_law 454 = .ok (.iconst 1, 1) := by decide +kernel
theorem dL_law_455 : decode cL_law 455 = .ok (.iadd, 1) := by decide +kernel
theorem dL_law_456 : decode cL_law 456 = .ok (.iaload, 1) := by decide +kernel
theorem dL_law_457 : decode cL_law 457 = .ok (.invokevirtual 77, 3) := by decide +kernel
theorem dL_law_460 : decode cL_law 460 = .ok (.aload_n 2, 1) := by decide +kernel
theorem dL_law_461 : decode cL_law 461 = .ok (.aload_n 0, 1) := by decide +kernel
theorem dL_law_462 : decode cL_law 462 = .ok (.iload_n 3, 1) := by decide +kernel
theorem dL_law_463 : decode cL_law 463 = .ok (.iconst 1, 1) := by decide +kernel
theorem dL_law_464 : decode cL_law 464 = .ok (.iadd, 1) := by decide +kernel
theorem dL_law_465 : decode cL_law 465 = .ok (.iaload, 1) := by decide +kernel
theorem dL_law_466 : decode cL_law 466 = .ok (.invokevirtual 80, 3) := by decide +kernel
theorem dL_law_469 : decode cL_law 469 = .ok (.if_icmp .eq 124, 3) := by decide +kernel
theorem dL_law_472 : decode cL_law 472 = .ok (.iconst 0, 1) := by decide +kernel
theorem dL_law_473 : decode cL_law 473 = .ok (.ireturn, 1) := by decide +kernel
theorem dL_law_474 : decode cL_law 474 = .ok (.aload_n 1, 1) := by decide +kernel
theorem dL_law_475 : decode cL_law 475 = .ok (.aload_n 0, 1) := by decide +kernel
theorem dL_law_476 : decode cL_law 476 = .ok (.iload_n 3, 1) := by decide +kernel
theorem dL_law_477 : decode cL_law 477 = .ok (.iconst 1, 1) := by decide +kernel
theorem dL_law_478 : decode cL_law 478 = .ok (.iadd, 1) := by decide +kernel
theorem dL_law_479 : decode cL_law 479 = .ok (.iaload, 1) := by decide +kernel
theorem dL_law_480 : decode cL_law 480 = .ok (.invokevirtual 81, 3) := by decide +kernel
theorem dL_law_483 : decode cL_law 483 = .ok (.aload_n 2, 1) := by decide +kernel
theorem dL_law_484 : decode cL_law 484 = .ok (.aload_n 0, 1) := by decide +kernel
theorem dL_law_485 : decode cL_law 485 = .ok (.iload_n 3, 1) := by decide +kernel
theorem dL_law_486 : decode cL_law 486 = .ok (.iconst 1, 1) := by decide +kernel
theorem dL_law_487 : decode cL_law 487 = .ok (.iadd, 1) := by decide +kernel
theorem dL_law_488 : decode cL_law 488 = .ok (.iaload, 1) := by decide +kernel
theorem dL_law_489 : decode cL_law 489 = .ok (.invokevirtual 84, 3) := by decide +kernel
theorem dL_law_492 : decode cL_law 492 = .ok (.if_icmp .eq 101, 3) := by decide +kernel
theorem dL_law_495 : decode cL_law 495 = .ok (.iconst 0, 1) := by decide +kernel
theorem dL_law_496 : decode cL_law 496 = .ok (.ireturn, 1) := by decide +kernel
theorem dL_law_497 : decode cL_law 497 = .ok (.aload_n 1, 1) := by decide +kernel
theorem dL_law_498 : decode cL_law 498 = .ok (.aload_n 0, 1) := by decide +kernel
theorem dL_law_499 : decode cL_law 499 = .ok (.iload_n 3, 1) := by decide +kernel
theorem dL_law_500 : decode cL_law 500 = .ok (.iconst 1, 1) := by decide +kernel
theorem dL_law_501 : decode cL_law 501 = .ok (.iadd, 1) := by decide +kernel
theorem dL_law_502 : decode cL_law 502 = .ok (.iaload, 1) := by decide +kernel
theorem dL_law_503 : decode cL_law 503 = .ok (.invokevirtual 85, 3) := by decide +kernel
theorem dL_law_506 : decode cL_law 506 = .ok (.aload_n 2, 1) := by decide +kernel
theorem dL_law_507 : decode cL_law 507 = .ok (.aload_n 0, 1) := by decide +kernel
theorem dL_law_508 : decode cL_law 508 = .ok (.iload_n 3, 1) := by decide +kernel
theorem dL_law_509 : decode cL_law 509 = .ok (.iconst 1, 1) := by decide +kernel
theorem dL_law_510 : decode cL_law 510 = .ok (.iadd, 1) := by decide +kernel
theorem dL_law_511 : decode cL_law 511 = .ok (.iaload, 1) := by decide +kernel
theorem dL_law_512 : decode cL_law 512 = .ok (.invokevirtual 88, 3) := by decide +kernel
theorem dL_law_515 : decode cL_law 515 = .ok (.if_icmp .eq 78, 3) := by decide +kernel
theorem dL_law_518 : decode cL_law 518 = .ok (.iconst 0, 1) := by decide +kernel
theorem dL_law_519 : decode cL_law 519 = .ok (.ireturn, 1) := by decide +kernel
theorem dL_law_520 : decode cL_law 520 = .ok (.aload_n 1, 1) := by decide +kernel
theorem dL_law_521 : decode cL_law 521 = .ok (.aload_n 0, 1) := by decide +kernel
theorem dL_law_522 : decode cL_law 522 = .ok (.iload_n 3, 1) := by decide +kernel
theorem dL_law_523 : decode cL_law 523 = .ok (.iconst 1, 1) := by decide +kernel
theorem dL_law_524 : decode cL_law 524 = .ok (.iadd, 1) := by decide +kernel
theorem dL_law_525 : decode cL_law 525 = .ok (.iaload, 1) := by decide +kernel
theorem dL_law_526 : decode cL_law 526 = .ok (.invokevirtual 89, 3) := by decide +kernel
theorem dL_law_529 : decode cL_law 529 = .ok (.aload_n 2, 1) := by decide +kernel
theorem dL_law_530 : decode cL_law 530 = .ok (.aload_n 0, 1) := by decide +kernel
theorem dL_law_531 : decode cL_law 531 = .ok (.iload_n 3, 1) := by decide +kernel
theorem dL_law_532 : decode cL_law 532 = .ok (.iconst 1, 1) := by decide +kernel
theorem dL_law_533 : decode cL_law 533 = .ok (.iadd, 1) := by decide +kernel
theorem dL_law_534 : decode cL_law 534 = .ok (.iaload, 1) := by decide +kernel
theorem dL_law_535 : decode cL_law 535 = .ok (.invokevirtual 92, 3) := by decide +kernel
theorem dL_law_538 : decode cL_law 538 = .ok (.if_icmp .eq 55, 3) := by decide +kernel
theorem dL_law_541 : decode cL_law 541 = .ok (.iconst 0, 1) := by decide +kernel
theorem dL_law_542 : decode cL_law 542 = .ok (.ireturn, 1) := by decide +kernel
theorem dL_law_543 : decode cL_law 543 = .ok (.aload_n 1, 1) := by decide +kernel
theorem dL_law_544 : decode cL_law 544 = .ok (.invokevirtual 93, 3) := by decide +kernel
theorem dL_law_547 : decode cL_law 547 = .ok (.aload_n 2, 1) := by decide +kernel
theorem dL_law_548 : decode cL_law 548 = .ok (.invokevirtual 96, 3) := by decide +kernel
theorem dL_law_551 : decode cL_law 551 = .ok (.if_icmp .eq 42, 3) := by decide +kernel
theorem dL_law_554 : decode cL_law 554 = .ok (.iconst 0, 1) := by decide +kernel
theorem dL_law_555 : decode cL_law 555 = .ok (.ireturn, 1) := by decide +kernel
theorem dL_law_556 : decode cL_law 556 = .ok (.aload_n 1, 1) := by decide +kernel
theorem dL_law_557 : decode cL_law 557 = .ok (.aload_n 0, 1) := by decide +kernel
theorem dL_law_558 : decode cL_law 558 = .ok (.iload_n 3, 1) := by decide +kernel
theorem dL_law_559 : decode cL_law 559 = .ok (.iconst 1, 1) := by decide +kernel
theorem dL_law_560 : decode cL_law 560 = .ok (.iadd, 1) := by decide +kernel
theorem dL_law_561 : decode cL_law 561 = .ok (.iaload, 1) := by decide +kernel
theorem dL_law_562 : decode cL_law 562 = .ok (.invokevirtual 97, 3) := by decide +kernel
theorem dL_law_565 : decode cL_law 565 = .ok (.aload_n 2, 1) := by decide +kernel
theorem dL_law_566 : decode cL_law 566 = .ok (.aload_n 0, 1) := by decide +kernel
theorem dL_law_567 : decode cL_law 567 = .ok (.iload_n 3, 1) := by decide +kernel
theorem dL_law_568 : decode cL_law 568 = .ok (.iconst 1, 1) := by decide +kernel
theorem dL_law_569 : decode cL_law 569 = .ok (.iadd, 1) := by decide +kernel
theorem dL_law_570 : decode cL_law 570 = .ok (.iaload, 1) := by decide +kernel
theorem dL_law_571 : decode cL_law 571 = .ok (.invokevirtual 100, 3) := by decide +kernel
theorem dL_law_574 : decode cL_law 574 = .ok (.if_icmp .eq 19, 3) := by decide +kernel
theorem dL_law_577 : decode cL_law 577 = .ok (.iconst 0, 1) := by decide +kernel
theorem dL_law_578 : decode cL_law 578 = .ok (.ireturn, 1) := by decide +kernel
theorem dL_law_579 : decode cL_law 579 = .ok (.aload_n 1, 1) := by decide +kernel
theorem dL_law_580 : decode cL_law 580 = .ok (.invokevirtual 101, 3) := by decide +kernel
theorem dL_law_583 : decode cL_law 583 = .ok (.aload_n 2, 1) := by decide +kernel
theorem dL_law_584 : decode cL_law 584 = .ok (.invokevirtual 105, 3) := by decide +kernel
theorem dL_law_587 : decode cL_law 587 = .ok (.lcmp, 1) := by decide +kernel
theorem dL_law_588 : decode cL_law 588 = .ok (.ifCond .eq 5, 3) := by decide +kernel
theorem dL_law_591 : decode cL_law 591 = .ok (.iconst 0, 1) := by decide +kernel
theorem dL_law_592 : decode cL_law 592 = .ok (.ireturn, 1) := by decide +kernel
theorem dL_law_593 : decode cL_law 593 = .ok (.iinc 3 4, 3) := by decide +kernel
theorem dL_law_596 : decode cL_law 596 = .ok (.goto (-578), 3) := by decide +kernel
theorem dL_law_599 : decode cL_law 599 = .ok (.iconst 1, 1) := by decide +kernel
theorem dL_law_600 : decode cL_law 600 = .ok (.ireturn, 1) := by decide +kernel
end
section
/-! The world of this claim as one picture: 36 cells by number, scalars z, rows g; a judgement nr_G over it; contracts nr_Si, nr_Sv, nr_Sl. -/
def nr_gw : Cond → Bool
  | .fieldLinkNest .. => true
  | .methodLinkNest .. => true
  | w => goodWord w
def nr_tb : List Cond := lw_tbl.filter nr_gw
theorem nr_warm {args a' : Array Value} {s U : State} (hW : s.WarmedH U.vm) {w : Cond} (hg : nr_gw w = true) (h : w.before args s = true) : w.before a' U = true := by
  cases w <;> first
    | exact word_at hW (good_of_word hg) h
    | exact va_Nw.use rfl (va_Nw.warmF hW (va_Nw.of rfl h))
    | exact va_Nw.use rfl (va_Nw.warmM hW (va_Nw.of rfl h))
theorem nr_in {i : Nat} {w : Cond} (h : lw_tbl[i]? = some w) (hg : nr_gw w = true) : w ∈ nr_tb := List.mem_filter.mpr ⟨List.mem_of_getElem? h, hg⟩
theorem wn_RL : Cond.initialized RL ∈ nr_tb := nr_in (i := 58) (by decide +kernel) (by decide +kernel)
theorem wn_RX5 : Cond.initialized RX5 ∈ nr_tb := nr_in (i := 59) (by decide +kernel) (by decide +kernel)
theorem wn_RX0 : Cond.initialized RX0 ∈ nr_tb := nr_in (i := 60) (by decide +kernel) (by decide +kernel)
theorem wn_RX1 : Cond.initialized RX1 ∈ nr_tb := nr_in (i := 61) (by decide +kernel) (by decide +kernel)
theorem wn_RX3 : Cond.initialized RX3 ∈ nr_tb := nr_in (i := 62) (by decide +kernel) (by decide +kernel)
theorem wn_RX4 : Cond.initialized RX4 ∈ nr_tb := nr_in (i := 63) (by decide +kernel) (by decide +kernel)
theorem wn_RJ7 : Cond.initialized RJ7 ∈ nr_tb := nr_in (i := 64) (by decide +kernel) (by decide +kernel)
theorem wn_RX2 : Cond.initialized RX2 ∈ nr_tb := nr_in (i := 65) (by decide +kernel) (by decide +kernel)
theorem wn_RX6 : Cond.initialized RX6 ∈ nr_tb := nr_in (i := 66) (by decide +kernel) (by decide +kernel)
theorem wn_RJ10 : Cond.initialized RJ10 ∈ nr_tb := nr_in (i := 67) (by decide +kernel) (by decide +kernel)
theorem nr_cp_i : Cond.initialized "java/lang/System" ∈ nr_tb := nr_in (i := 67) (by decide +kernel) (by decide +kernel)
theorem wn_RJ9 : Cond.initialized RJ9 ∈ nr_tb := nr_in (i := 68) (by decide +kernel) (by decide +kernel)
theorem nr_max_i : Cond.initialized "java/lang/Math" ∈ nr_tb := nr_in (i := 68) (by decide +kernel) (by decide +kernel)
theorem wl_RL_7 : Cond.classLink RL 7 RX5 ∈ nr_tb := nr_in (i := 69) (by decide +kernel) (by decide +kernel)
theorem wt_RX5 : Cond.instantiable RX5 10 ∈ nr_tb := nr_in (i := 70) (by decide +kernel) (by decide +kernel)
theorem wm_RL_9 : Cond.methodLink RL 9 yX5_init ∈ nr_tb := nr_in (i := 71) (by decide +kernel) (by decide +kernel)
theorem wi_yX5_init : Cond.instanceMethod yX5_init ∈ nr_tb := nr_in (i := 72) (by decide +kernel) (by decide +kernel)
theorem wc_yX5_init : Cond.code yX5_init cX5_init 1 none ∈ nr_tb := nr_in (i := 73) (by decide +kernel) (by decide +kernel)
theorem wm_RX5_3 : Cond.methodLink RX5 3 objectInit ∈ nr_tb := nr_in (i := 74) (by decide +kernel) (by decide +kernel)
theorem wi_objectInit : Cond.instanceMethod objectInit ∈ nr_tb := nr_in (i := 75) (by decide +kernel) (by decide +kernel)
theorem wc_objectInit : Cond.code objectInit ⟨#[0xb1]⟩ 1 none ∈ nr_tb := nr_in (i := 76) (by decide +kernel) (by decide +kernel)
theorem wl_RX5_9 : Cond.classLink RX5 9 RX0 ∈ nr_tb := nr_in (i := 77) (by decide +kernel) (by decide +kernel)
theorem wt_RX0 : Cond.instantiable RX0 1 ∈ nr_tb := nr_in (i := 78) (by decide +kernel) (by decide +kernel)
theorem wm_RX5_11 : Cond.methodLinkNest RX5 11 yX0_init RX5 ∈ nr_tb := nr_in (i := 79) (by decide +kernel) (by decide +kernel)
theorem wi_yX0_init : Cond.instanceMethod yX0_init ∈ nr_tb := nr_in (i := 80) (by decide +kernel) (by decide +kernel)
theorem wc_yX0_init : Cond.code yX0_init cX0_init 1 none ∈ nr_tb := nr_in (i := 81) (by decide +kernel) (by decide +kernel)
theorem wm_RX0_3 : Cond.methodLink RX0 3 objectInit ∈ nr_tb := nr_in (i := 82) (by decide +kernel) (by decide +kernel)
theorem wf_RX0_9 : Cond.fieldLink RX0 9 "NightRounds$House" "cells" "[I" ∈ nr_tb := nr_in (i := 83) (by decide +kernel) (by decide +kernel)
theorem wf_RX1_25 : Cond.fieldLinkNest RX1 25 "NightRounds$House" "cells" "[I" "NightRounds" ∈ nr_tb := nr_in (i := 84) (by decide +kernel) (by decide +kernel)
theorem wa_int : Cond.arrayClass .int ∈ nr_tb := nr_in (i := 88) (by decide +kernel) (by decide +kernel)
theorem wl_RX5_19 : Cond.classLink RX5 19 RX1 ∈ nr_tb := nr_in (i := 89) (by decide +kernel) (by decide +kernel)
theorem wt_RX1 : Cond.instantiable RX1 2 ∈ nr_tb := nr_in (i := 90) (by decide +kernel) (by decide +kernel)
theorem wm_RX5_21 : Cond.methodLinkNest RX5 21 yX1_init RX5 ∈ nr_tb := nr_in (i := 91) (by decide +kernel) (by decide +kernel)
theorem wi_yX1_init : Cond.instanceMethod yX1_init ∈ nr_tb := nr_in (i := 92) (by decide +kernel) (by decide +kernel)
theorem wc_yX1_init : Cond.code yX1_init cX1_init 1 none ∈ nr_tb := nr_in (i := 93) (by decide +kernel) (by decide +kernel)
theorem wm_RX1_3 : Cond.methodLink RX1 3 objectInit ∈ nr_tb := nr_in (i := 94) (by decide +kernel) (by decide +kernel)
theorem wf_RX1_9 : Cond.fieldLink RX1 9 "NightRounds$Nights" "rows" "[I" ∈ nr_tb := nr_in (i := 95) (by decide +kernel) (by decide +kernel)
theorem wf_RX1_15 : Cond.fieldLink RX1 15 "NightRounds$Nights" "held" "I" ∈ nr_tb := nr_in (i := 96) (by decide +kernel) (by decide +kernel)
theorem wl_RX5_26 : Cond.classLink RX5 26 RX3 ∈ nr_tb := nr_in (i := 102) (by decide +kernel) (by decide +kernel)
theorem wt_RX3 : Cond.instantiable RX3 11 ∈ nr_tb := nr_in (i := 103) (by decide +kernel) (by decide +kernel)
theorem wm_RX5_28 : Cond.methodLinkNest RX5 28 yX3_init RX5 ∈ nr_tb := nr_in (i := 104) (by decide +kernel) (by decide +kernel)
theorem wi_yX3_init : Cond.instanceMethod yX3_init ∈ nr_tb := nr_in (i := 105) (by decide +kernel) (by decide +kernel)
theorem wc_yX3_init : Cond.code yX3_init cX3_init 1 none ∈ nr_tb := nr_in (i := 106) (by decide +kernel) (by decide +kernel)
theorem wm_RX3_3 : Cond.methodLink RX3 3 objectInit ∈ nr_tb := nr_in (i := 107) (by decide +kernel) (by decide +kernel)
theorem wf_RX3_9 : Cond.fieldLink RX3 9 "NightRounds$Script" "text" "[I" ∈ nr_tb := nr_in (i := 108) (by decide +kernel) (by decide +kernel)
theorem wf_RX3_15 : Cond.fieldLink RX3 15 "NightRounds$Script" "signs" "[I" ∈ nr_tb := nr_in (i := 109) (by decide +kernel) (by decide +kernel)
theorem wf_RX3_18 : Cond.fieldLink RX3 18 "NightRounds$Script" "figures" "[I" ∈ nr_tb := nr_in (i := 110) (by decide +kernel) (by decide +kernel)
theorem wf_RX3_21 : Cond.fieldLink RX3 21 "NightRounds$Script" "middles" "[I" ∈ nr_tb := nr_in (i := 111) (by decide +kernel) (by decide +kernel)
theorem wf_RX3_24 : Cond.fieldLink RX3 24 "NightRounds$Script" "nexts" "[I" ∈ nr_tb := nr_in (i := 112) (by decide +kernel) (by decide +kernel)
theorem wf_RX3_27 : Cond.fieldLink RX3 27 "NightRounds$Script" "length" "I" ∈ nr_tb := nr_in (i := 113) (by decide +kernel) (by decide +kernel)
theorem wf_RX3_31 : Cond.fieldLink RX3 31 "NightRounds$Script" "acts" "I" ∈ nr_tb := nr_in (i := 114) (by decide +kernel) (by decide +kernel)
theorem wf_RX3_34 : Cond.fieldLink RX3 34 "NightRounds$Script" "deepest" "I" ∈ nr_tb := nr_in (i := 115) (by decide +kernel) (by decide +kernel)
theorem wf_RX3_37 : Cond.fieldLink RX3 37 "NightRounds$Script" "roomBits" "I" ∈ nr_tb := nr_in (i := 116) (by decide +kernel) (by decide +kernel)
theorem wf_RX3_44 : Cond.fieldLink RX3 44 "NightRounds$Script" "place" "I" ∈ nr_tb := nr_in (i := 117) (by decide +kernel) (by decide +kernel)
theorem wf_RX3_47 : Cond.fieldLink RX3 47 "NightRounds$Script" "fault" "I" ∈ nr_tb := nr_in (i := 118) (by decide +kernel) (by decide +kernel)
theorem wl_RX5_33 : Cond.classLink RX5 33 RX4 ∈ nr_tb := nr_in (i := 142) (by decide +kernel) (by decide +kernel)
theorem wt_RX4 : Cond.instantiable RX4 5 ∈ nr_tb := nr_in (i := 143) (by decide +kernel) (by decide +kernel)
theorem wm_RX5_35 : Cond.methodLink RX5 35 yX4_init ∈ nr_tb := nr_in (i := 144) (by decide +kernel) (by decide +kernel)
theorem wi_yX4_init : Cond.instanceMethod yX4_init ∈ nr_tb := nr_in (i := 145) (by decide +kernel) (by decide +kernel)
theorem wc_yX4_init : Cond.code yX4_init cX4_init 1 none ∈ nr_tb := nr_in (i := 146) (by decide +kernel) (by decide +kernel)
theorem wm_RX4_3 : Cond.methodLink RX4 3 objectInit ∈ nr_tb := nr_in (i := 147) (by decide +kernel) (by decide +kernel)
theorem wm_RX4_18 : Cond.methodLink RX4 18 yX4_begin ∈ nr_tb := nr_in (i := 148) (by decide +kernel) (by decide +kernel)
theorem wi_yX4_begin : Cond.instanceMethod yX4_begin ∈ nr_tb := nr_in (i := 149) (by decide +kernel) (by decide +kernel)
theorem we_yX4_begin : Cond.selects RX4 yX4_begin yX4_begin ∈ nr_tb := nr_in (i := 150) (by decide +kernel) (by decide +kernel)
theorem wc_yX4_begin : Cond.code yX4_begin cX4_begin 1 none ∈ nr_tb := nr_in (i := 151) (by decide +kernel) (by decide +kernel)
theorem wm_RX4_21 : Cond.methodLink RX4 21 yJ7_fill_53178 ∈ nr_tb := nr_in (i := 152) (by decide +kernel) (by decide +kernel)
theorem ws_yJ7_fill_53178 : Cond.static yJ7_fill_53178 ∈ nr_tb := nr_in (i := 153) (by decide +kernel) (by decide +kernel)
theorem wc_yJ7_fill_53178 : Cond.code yJ7_fill_53178 cJ7_fill_53178 4 none ∈ nr_tb := nr_in (i := 154) (by decide +kernel) (by decide +kernel)
theorem wm_RX4_34 : Cond.methodLink RX4 34 yX4_calm ∈ nr_tb := nr_in (i := 155) (by decide +kernel) (by decide +kernel)
theorem wi_yX4_calm : Cond.instanceMethod yX4_calm ∈ nr_tb := nr_in (i := 156) (by decide +kernel) (by decide +kernel)
theorem we_yX4_calm : Cond.selects RX4 yX4_calm yX4_calm ∈ nr_tb := nr_in (i := 157) (by decide +kernel) (by decide +kernel)
theorem wc_yX4_calm : Cond.code yX4_calm cX4_calm 1 none ∈ nr_tb := nr_in (i := 158) (by decide +kernel) (by decide +kernel)
theorem wf_RX4_9 : Cond.fieldLink RX4 9 "NightRounds$Tale" "facts" "[I" ∈ nr_tb := nr_in (i := 159) (by decide +kernel) (by decide +kernel)
theorem wf_RX4_15 : Cond.fieldLink RX4 15 "NightRounds$Tale" "entries" "[I" ∈ nr_tb := nr_in (i := 160) (by decide +kernel) (by decide +kernel)
theorem wf_RX4_27 : Cond.fieldLink RX4 27 "NightRounds$Tale" "written" "I" ∈ nr_tb := nr_in (i := 161) (by decide +kernel) (by decide +kernel)
theorem wf_RX4_37 : Cond.fieldLink RX4 37 "NightRounds$Tale" "innermost" "I" ∈ nr_tb := nr_in (i := 162) (by decide +kernel) (by decide +kernel)
theorem wf_RX4_31 : Cond.fieldLink RX4 31 "NightRounds$Tale" "doorsOpen" "I" ∈ nr_tb := nr_in (i := 163) (by decide +kernel) (by decide +kernel)
theorem wl_RX5_43 : Cond.classLink RX5 43 RX2 ∈ nr_tb := nr_in (i := 175) (by decide +kernel) (by decide +kernel)
theorem wt_RX2 : Cond.instantiable RX2 3 ∈ nr_tb := nr_in (i := 176) (by decide +kernel) (by decide +kernel)
theorem wm_RX5_45 : Cond.methodLink RX5 45 yX2_init ∈ nr_tb := nr_in (i := 177) (by decide +kernel) (by decide +kernel)
theorem wi_yX2_init : Cond.instanceMethod yX2_init ∈ nr_tb := nr_in (i := 178) (by decide +kernel) (by decide +kernel)
theorem wc_yX2_init : Cond.code yX2_init cX2_init 4 none ∈ nr_tb := nr_in (i := 179) (by decide +kernel) (by decide +kernel)
theorem wm_RX2_3 : Cond.methodLink RX2 3 objectInit ∈ nr_tb := nr_in (i := 180) (by decide +kernel) (by decide +kernel)
theorem wf_RX2_9 : Cond.fieldLink RX2 9 "NightRounds$Porter" "script" "LNightRounds$Script;" ∈ nr_tb := nr_in (i := 181) (by decide +kernel) (by decide +kernel)
theorem wf_RX2_15 : Cond.fieldLink RX2 15 "NightRounds$Porter" "house" "LNightRounds$House;" ∈ nr_tb := nr_in (i := 182) (by decide +kernel) (by decide +kernel)
theorem wf_RX2_19 : Cond.fieldLink RX2 19 "NightRounds$Porter" "tale" "LNightRounds$Tale;" ∈ nr_tb := nr_in (i := 183) (by decide +kernel) (by decide +kernel)
theorem wf_RX5_12 : Cond.fieldLink RX5 12 "NightRounds" "house" "LNightRounds$House;" ∈ nr_tb := nr_in (i := 191) (by decide +kernel) (by decide +kernel)
theorem wf_RX5_16 : Cond.fieldLink RX5 16 "NightRounds" "supposed" "LNightRounds$House;" ∈ nr_tb := nr_in (i := 192) (by decide +kernel) (by decide +kernel)
theorem wf_RX5_22 : Cond.fieldLink RX5 22 "NightRounds" "nights" "LNightRounds$Nights;" ∈ nr_tb := nr_in (i := 193) (by decide +kernel) (by decide +kernel)
theorem wf_RX5_29 : Cond.fieldLink RX5 29 "NightRounds" "script" "LNightRounds$Script;" ∈ nr_tb := nr_in (i := 194) (by decide +kernel) (by decide +kernel)
theorem wf_RX5_36 : Cond.fieldLink RX5 36 "NightRounds" "last" "LNightRounds$Tale;" ∈ nr_tb := nr_in (i := 195) (by decide +kernel) (by decide +kernel)
theorem wf_RX5_40 : Cond.fieldLink RX5 40 "NightRounds" "unkept" "LNightRounds$Tale;" ∈ nr_tb := nr_in (i := 196) (by decide +kernel) (by decide +kernel)
theorem wf_RX5_48 : Cond.fieldLink RX5 48 "NightRounds" "porter" "LNightRounds$Porter;" ∈ nr_tb := nr_in (i := 197) (by decide +kernel) (by decide +kernel)
theorem wf_RX5_167 : Cond.fieldLink RX5 167 "NightRounds" "bads" "I" ∈ nr_tb := nr_in (i := 198) (by decide +kernel) (by decide +kernel)
theorem wf_RX5_171 : Cond.fieldLink RX5 171 "NightRounds" "noes" "I" ∈ nr_tb := nr_in (i := 199) (by decide +kernel) (by decide +kernel)
theorem wf_RX5_174 : Cond.fieldLink RX5 174 "NightRounds" "fulls" "I" ∈ nr_tb := nr_in (i := 200) (by decide +kernel) (by decide +kernel)
theorem wm_RL_13 : Cond.methodLink RL 13 yX5_sets ∈ nr_tb := nr_in (i := 222) (by decide +kernel) (by decide +kernel)
theorem wi_yX5_sets : Cond.instanceMethod yX5_sets ∈ nr_tb := nr_in (i := 223) (by decide +kernel) (by decide +kernel)
theorem we_yX5_sets : Cond.selects RX5 yX5_sets yX5_sets ∈ nr_tb := nr_in (i := 224) (by decide +kernel) (by decide +kernel)
theorem wc_yX5_sets : Cond.code yX5_sets cX5_sets 5 (some .int) ∈ nr_tb := nr_in (i := 225) (by decide +kernel) (by decide +kernel)
theorem wm_RX5_52 : Cond.methodLink RX5 52 yX5_isRoom ∈ nr_tb := nr_in (i := 226) (by decide +kernel) (by decide +kernel)
theorem ws_yX5_isRoom : Cond.static yX5_isRoom ∈ nr_tb := nr_in (i := 227) (by decide +kernel) (by decide +kernel)
theorem wc_yX5_isRoom : Cond.code yX5_isRoom cX5_isRoom 1 (some .boolean) ∈ nr_tb := nr_in (i := 228) (by decide +kernel) (by decide +kernel)
theorem wm_RX5_56 : Cond.methodLink RX5 56 yX5_within ∈ nr_tb := nr_in (i := 229) (by decide +kernel) (by decide +kernel)
theorem ws_yX5_within : Cond.static yX5_within ∈ nr_tb := nr_in (i := 230) (by decide +kernel) (by decide +kernel)
theorem wc_yX5_within : Cond.code yX5_within cX5_within 3 (some .boolean) ∈ nr_tb := nr_in (i := 231) (by decide +kernel) (by decide +kernel)
theorem wf_RX5_60 : Cond.fieldLink RX5 60 "NightRounds" "SETS_MOST" "[I" ∈ nr_tb := nr_in (i := 232) (by decide +kernel) (by decide +kernel)
theorem wm_RX5_64 : Cond.methodLink RX5 64 yX5_at ∈ nr_tb := nr_in (i := 234) (by decide +kernel) (by decide +kernel)
theorem ws_yX5_at : Cond.static yX5_at ∈ nr_tb := nr_in (i := 235) (by decide +kernel) (by decide +kernel)
theorem wc_yX5_at : Cond.code yX5_at cX5_at 2 (some .int) ∈ nr_tb := nr_in (i := 236) (by decide +kernel) (by decide +kernel)
theorem wm_RX5_68 : Cond.methodLink RX5 68 yX5_refuse ∈ nr_tb := nr_in (i := 237) (by decide +kernel) (by decide +kernel)
theorem wi_yX5_refuse : Cond.instanceMethod yX5_refuse ∈ nr_tb := nr_in (i := 239) (by decide +kernel) (by decide +kernel)
theorem wc_yX5_refuse : Cond.code yX5_refuse cX5_refuse 2 (some .int) ∈ nr_tb := nr_in (i := 240) (by decide +kernel) (by decide +kernel)
theorem wm_RX5_72 : Cond.methodLink RX5 72 yX0_cell ∈ nr_tb := nr_in (i := 241) (by decide +kernel) (by decide +kernel)
theorem wi_yX0_cell : Cond.instanceMethod yX0_cell ∈ nr_tb := nr_in (i := 242) (by decide +kernel) (by decide +kernel)
theorem we_yX0_cell : Cond.selects RX0 yX0_cell yX0_cell ∈ nr_tb := nr_in (i := 243) (by decide +kernel) (by decide +kernel)
theorem wc_yX0_cell : Cond.code yX0_cell cX0_cell 4 (some .int) ∈ nr_tb := nr_in (i := 244) (by decide +kernel) (by decide +kernel)
theorem wm_RX5_76 : Cond.methodLink RX5 76 yX1_keep ∈ nr_tb := nr_in (i := 245) (by decide +kernel) (by decide +kernel)
theorem wi_yX1_keep : Cond.instanceMethod yX1_keep ∈ nr_tb := nr_in (i := 246) (by decide +kernel) (by decide +kernel)
theorem we_yX1_keep : Cond.selects RX1 yX1_keep yX1_keep ∈ nr_tb := nr_in (i := 247) (by decide +kernel) (by decide +kernel)
theorem wc_yX1_keep : Cond.code yX1_keep cX1_keep 2 none ∈ nr_tb := nr_in (i := 248) (by decide +kernel) (by decide +kernel)
theorem wm_RX1_19 : Cond.methodLink RX1 19 arraycopyName ∈ nr_tb := nr_in (i := 249) (by decide +kernel) (by decide +kernel)
theorem nr_cp_s : Cond.static arraycopyName ∈ nr_tb := nr_in (i := 250) (by decide +kernel) (by decide +kernel)
theorem nr_cp_n : Cond.native arraycopyName ∈ nr_tb := nr_in (i := 251) (by decide +kernel) (by decide +kernel)
theorem wm_RX5_80 : Cond.methodLink RX5 80 yX0_change ∈ nr_tb := nr_in (i := 252) (by decide +kernel) (by decide +kernel)
theorem wi_yX0_change : Cond.instanceMethod yX0_change ∈ nr_tb := nr_in (i := 253) (by decide +kernel) (by decide +kernel)
theorem we_yX0_change : Cond.selects RX0 yX0_change yX0_change ∈ nr_tb := nr_in (i := 254) (by decide +kernel) (by decide +kernel)
theorem wc_yX0_change : Cond.code yX0_change cX0_change 4 none ∈ nr_tb := nr_in (i := 255) (by decide +kernel) (by decide +kernel)
theorem wm_RX0_15 : Cond.methodLink RX0 15 yX0_setCell ∈ nr_tb := nr_in (i := 256) (by decide +kernel) (by decide +kernel)
theorem wi_yX0_setCell : Cond.instanceMethod yX0_setCell ∈ nr_tb := nr_in (i := 258) (by decide +kernel) (by decide +kernel)
theorem wc_yX0_setCell : Cond.code yX0_setCell cX0_setCell 5 none ∈ nr_tb := nr_in (i := 259) (by decide +kernel) (by decide +kernel)
theorem wm_RL_18 : Cond.methodLink RL 18 yX5_of ∈ nr_tb := nr_in (i := 260) (by decide +kernel) (by decide +kernel)
theorem wi_yX5_of : Cond.instanceMethod yX5_of ∈ nr_tb := nr_in (i := 261) (by decide +kernel) (by decide +kernel)
theorem we_yX5_of : Cond.selects RX5 yX5_of yX5_of ∈ nr_tb := nr_in (i := 262) (by decide +kernel) (by decide +kernel)
theorem wc_yX5_of : Cond.code yX5_of cX5_of 3 (some .int) ∈ nr_tb := nr_in (i := 263) (by decide +kernel) (by decide +kernel)
theorem wm_RX5_84 : Cond.methodLink RX5 84 yX0_loudness ∈ nr_tb := nr_in (i := 264) (by decide +kernel) (by decide +kernel)
theorem wi_yX0_loudness : Cond.instanceMethod yX0_loudness ∈ nr_tb := nr_in (i := 265) (by decide +kernel) (by decide +kernel)
theorem we_yX0_loudness : Cond.selects RX0 yX0_loudness yX0_loudness ∈ nr_tb := nr_in (i := 266) (by decide +kernel) (by decide +kernel)
theorem wc_yX0_loudness : Cond.code yX0_loudness cX0_loudness 3 (some .int) ∈ nr_tb := nr_in (i := 267) (by decide +kernel) (by decide +kernel)
theorem wm_RX0_19 : Cond.methodLink RX0 19 yX0_cell ∈ nr_tb := nr_in (i := 268) (by decide +kernel) (by decide +kernel)
theorem wm_RX0_23 : Cond.methodLink RX0 23 yX0_swollen ∈ nr_tb := nr_in (i := 269) (by decide +kernel) (by decide +kernel)
theorem ws_yX0_swollen : Cond.static yX0_swollen ∈ nr_tb := nr_in (i := 270) (by decide +kernel) (by decide +kernel)
theorem wc_yX0_swollen : Cond.code yX0_swollen cX0_swollen 1 (some .int) ∈ nr_tb := nr_in (i := 271) (by decide +kernel) (by decide +kernel)
theorem wm_RL_23 : Cond.methodLink RL 23 yX5_keys ∈ nr_tb := nr_in (i := 272) (by decide +kernel) (by decide +kernel)
theorem wi_yX5_keys : Cond.instanceMethod yX5_keys ∈ nr_tb := nr_in (i := 273) (by decide +kernel) (by decide +kernel)
theorem we_yX5_keys : Cond.selects RX5 yX5_keys yX5_keys ∈ nr_tb := nr_in (i := 274) (by decide +kernel) (by decide +kernel)
theorem wc_yX5_keys : Cond.code yX5_keys cX5_keys 3 (some .int) ∈ nr_tb := nr_in (i := 275) (by decide +kernel) (by decide +kernel)
theorem wm_RX5_87 : Cond.methodLink RX5 87 yX0_keyring ∈ nr_tb := nr_in (i := 276) (by decide +kernel) (by decide +kernel)
theorem wi_yX0_keyring : Cond.instanceMethod yX0_keyring ∈ nr_tb := nr_in (i := 277) (by decide +kernel) (by decide +kernel)
theorem we_yX0_keyring : Cond.selects RX0 yX0_keyring yX0_keyring ∈ nr_tb := nr_in (i := 278) (by decide +kernel) (by decide +kernel)
theorem wc_yX0_keyring : Cond.code yX0_keyring cX0_keyring 1 (some .int) ∈ nr_tb := nr_in (i := 279) (by decide +kernel) (by decide +kernel)
theorem wm_RX5_91 : Cond.methodLink RX5 91 yX0_giveKeys ∈ nr_tb := nr_in (i := 280) (by decide +kernel) (by decide +kernel)
theorem wi_yX0_giveKeys : Cond.instanceMethod yX0_giveKeys ∈ nr_tb := nr_in (i := 281) (by decide +kernel) (by decide +kernel)
theorem we_yX0_giveKeys : Cond.selects RX0 yX0_giveKeys yX0_giveKeys ∈ nr_tb := nr_in (i := 282) (by decide +kernel) (by decide +kernel)
theorem wc_yX0_giveKeys : Cond.code yX0_giveKeys cX0_giveKeys 2 none ∈ nr_tb := nr_in (i := 283) (by decide +kernel) (by decide +kernel)
theorem wm_RL_28 : Cond.methodLink RL 28 yX5_dusk ∈ nr_tb := nr_in (i := 284) (by decide +kernel) (by decide +kernel)
theorem wi_yX5_dusk : Cond.instanceMethod yX5_dusk ∈ nr_tb := nr_in (i := 285) (by decide +kernel) (by decide +kernel)
theorem we_yX5_dusk : Cond.selects RX5 yX5_dusk yX5_dusk ∈ nr_tb := nr_in (i := 286) (by decide +kernel) (by decide +kernel)
theorem wc_yX5_dusk : Cond.code yX5_dusk cX5_dusk 2 (some .int) ∈ nr_tb := nr_in (i := 287) (by decide +kernel) (by decide +kernel)
theorem wm_RX5_95 : Cond.methodLink RX5 95 yX0_roomsWith ∈ nr_tb := nr_in (i := 288) (by decide +kernel) (by decide +kernel)
theorem wi_yX0_roomsWith : Cond.instanceMethod yX0_roomsWith ∈ nr_tb := nr_in (i := 289) (by decide +kernel) (by decide +kernel)
theorem we_yX0_roomsWith : Cond.selects RX0 yX0_roomsWith yX0_roomsWith ∈ nr_tb := nr_in (i := 290) (by decide +kernel) (by decide +kernel)
theorem wc_yX0_roomsWith : Cond.code yX0_roomsWith cX0_roomsWith 4 (some .int) ∈ nr_tb := nr_in (i := 291) (by decide +kernel) (by decide +kernel)
theorem wm_RX5_98 : Cond.methodLink RX5 98 yX0_settle ∈ nr_tb := nr_in (i := 292) (by decide +kernel) (by decide +kernel)
theorem wi_yX0_settle : Cond.instanceMethod yX0_settle ∈ nr_tb := nr_in (i := 293) (by decide +kernel) (by decide +kernel)
theorem we_yX0_settle : Cond.selects RX0 yX0_settle yX0_settle ∈ nr_tb := nr_in (i := 294) (by decide +kernel) (by decide +kernel)
theorem wc_yX0_settle : Cond.code yX0_settle cX0_settle 2 none ∈ nr_tb := nr_in (i := 295) (by decide +kernel) (by decide +kernel)
theorem wm_RL_33 : Cond.methodLink RL 33 yX5_type ∈ nr_tb := nr_in (i := 296) (by decide +kernel) (by decide +kernel)
theorem wi_yX5_type : Cond.instanceMethod yX5_type ∈ nr_tb := nr_in (i := 297) (by decide +kernel) (by decide +kernel)
theorem we_yX5_type : Cond.selects RX5 yX5_type yX5_type ∈ nr_tb := nr_in (i := 298) (by decide +kernel) (by decide +kernel)
theorem wc_yX5_type : Cond.code yX5_type cX5_type 2 (some .int) ∈ nr_tb := nr_in (i := 299) (by decide +kernel) (by decide +kernel)
theorem wm_RX5_101 : Cond.methodLink RX5 101 yX3_length ∈ nr_tb := nr_in (i := 300) (by decide +kernel) (by decide +kernel)
theorem wi_yX3_length : Cond.instanceMethod yX3_length ∈ nr_tb := nr_in (i := 301) (by decide +kernel) (by decide +kernel)
theorem we_yX3_length : Cond.selects RX3 yX3_length yX3_length ∈ nr_tb := nr_in (i := 302) (by decide +kernel) (by decide +kernel)
theorem wc_yX3_length : Cond.code yX3_length cX3_length 1 (some .int) ∈ nr_tb := nr_in (i := 303) (by decide +kernel) (by decide +kernel)
theorem wm_RX5_104 : Cond.methodLink RX5 104 yX3_append ∈ nr_tb := nr_in (i := 304) (by decide +kernel) (by decide +kernel)
theorem wi_yX3_append : Cond.instanceMethod yX3_append ∈ nr_tb := nr_in (i := 305) (by decide +kernel) (by decide +kernel)
theorem we_yX3_append : Cond.selects RX3 yX3_append yX3_append ∈ nr_tb := nr_in (i := 306) (by decide +kernel) (by decide +kernel)
theorem wc_yX3_append : Cond.code yX3_append cX3_append 2 none ∈ nr_tb := nr_in (i := 307) (by decide +kernel) (by decide +kernel)
theorem wm_RL_37 : Cond.methodLink RL 37 yX5_clear ∈ nr_tb := nr_in (i := 308) (by decide +kernel) (by decide +kernel)
theorem wi_yX5_clear : Cond.instanceMethod yX5_clear ∈ nr_tb := nr_in (i := 309) (by decide +kernel) (by decide +kernel)
theorem we_yX5_clear : Cond.selects RX5 yX5_clear yX5_clear ∈ nr_tb := nr_in (i := 310) (by decide +kernel) (by decide +kernel)
theorem wc_yX5_clear : Cond.code yX5_clear cX5_clear 2 (some .int) ∈ nr_tb := nr_in (i := 311) (by decide +kernel) (by decide +kernel)
theorem wm_RX5_107 : Cond.methodLink RX5 107 yX3_empty ∈ nr_tb := nr_in (i := 312) (by decide +kernel) (by decide +kernel)
theorem wi_yX3_empty : Cond.instanceMethod yX3_empty ∈ nr_tb := nr_in (i := 313) (by decide +kernel) (by decide +kernel)
theorem we_yX3_empty : Cond.selects RX3 yX3_empty yX3_empty ∈ nr_tb := nr_in (i := 314) (by decide +kernel) (by decide +kernel)
theorem wc_yX3_empty : Cond.code yX3_empty cX3_empty 1 none ∈ nr_tb := nr_in (i := 315) (by decide +kernel) (by decide +kernel)
theorem wm_RL_41 : Cond.methodLink RL 41 yX5_goes ∈ nr_tb := nr_in (i := 316) (by decide +kernel) (by decide +kernel)
theorem wi_yX5_goes : Cond.instanceMethod yX5_goes ∈ nr_tb := nr_in (i := 317) (by decide +kernel) (by decide +kernel)
theorem we_yX5_goes : Cond.selects RX5 yX5_goes yX5_goes ∈ nr_tb := nr_in (i := 318) (by decide +kernel) (by decide +kernel)
theorem wc_yX5_goes : Cond.code yX5_goes cX5_goes 2 (some .int) ∈ nr_tb := nr_in (i := 319) (by decide +kernel) (by decide +kernel)
theorem wm_RX5_110 : Cond.methodLink RX5 110 yX3_read ∈ nr_tb := nr_in (i := 320) (by decide +kernel) (by decide +kernel)
theorem wi_yX3_read : Cond.instanceMethod yX3_read ∈ nr_tb := nr_in (i := 321) (by decide +kernel) (by decide +kernel)
theorem we_yX3_read : Cond.selects RX3 yX3_read yX3_read ∈ nr_tb := nr_in (i := 322) (by decide +kernel) (by decide +kernel)
theorem wc_yX3_read : Cond.code yX3_read cX3_read 1 (some .int) ∈ nr_tb := nr_in (i := 323) (by decide +kernel) (by decide +kernel)
theorem wm_RX3_50 : Cond.methodLink RX3 50 yX3_readActs ∈ nr_tb := nr_in (i := 324) (by decide +kernel) (by decide +kernel)
theorem wi_yX3_readActs : Cond.instanceMethod yX3_readActs ∈ nr_tb := nr_in (i := 326) (by decide +kernel) (by decide +kernel)
theorem wc_yX3_readActs : Cond.code yX3_readActs cX3_readActs 3 none ∈ nr_tb := nr_in (i := 327) (by decide +kernel) (by decide +kernel)
theorem wm_RX3_54 : Cond.methodLink RX3 54 yX3_nextSign ∈ nr_tb := nr_in (i := 328) (by decide +kernel) (by decide +kernel)
theorem wi_yX3_nextSign : Cond.instanceMethod yX3_nextSign ∈ nr_tb := nr_in (i := 330) (by decide +kernel) (by decide +kernel)
theorem wc_yX3_nextSign : Cond.code yX3_nextSign cX3_nextSign 1 (some .int) ∈ nr_tb := nr_in (i := 331) (by decide +kernel) (by decide +kernel)
theorem wm_RX3_58 : Cond.methodLink RX3 58 yX3_beginsAct ∈ nr_tb := nr_in (i := 332) (by decide +kernel) (by decide +kernel)
theorem ws_yX3_beginsAct : Cond.static yX3_beginsAct ∈ nr_tb := nr_in (i := 333) (by decide +kernel) (by decide +kernel)
theorem wc_yX3_beginsAct : Cond.code yX3_beginsAct cX3_beginsAct 1 (some .boolean) ∈ nr_tb := nr_in (i := 334) (by decide +kernel) (by decide +kernel)
theorem wm_RX3_65 : Cond.methodLink RX3 65 yX3_holdsActs ∈ nr_tb := nr_in (i := 335) (by decide +kernel) (by decide +kernel)
theorem ws_yX3_holdsActs : Cond.static yX3_holdsActs ∈ nr_tb := nr_in (i := 336) (by decide +kernel) (by decide +kernel)
theorem wc_yX3_holdsActs : Cond.code yX3_holdsActs cX3_holdsActs 1 (some .boolean) ∈ nr_tb := nr_in (i := 337) (by decide +kernel) (by decide +kernel)
theorem wm_RX3_74 : Cond.methodLink RX3 74 yX3_isRoomSign ∈ nr_tb := nr_in (i := 338) (by decide +kernel) (by decide +kernel)
theorem ws_yX3_isRoomSign : Cond.static yX3_isRoomSign ∈ nr_tb := nr_in (i := 339) (by decide +kernel) (by decide +kernel)
theorem wc_yX3_isRoomSign : Cond.code yX3_isRoomSign cX3_isRoomSign 1 (some .boolean) ∈ nr_tb := nr_in (i := 340) (by decide +kernel) (by decide +kernel)
theorem wm_RX3_95 : Cond.methodLinkNest RX3 95 yX5_within RX5 ∈ nr_tb := nr_in (i := 341) (by decide +kernel) (by decide +kernel)
theorem wm_RX3_62 : Cond.methodLink RX3 62 yX3_readAct ∈ nr_tb := nr_in (i := 342) (by decide +kernel) (by decide +kernel)
theorem wi_yX3_readAct : Cond.instanceMethod yX3_readAct ∈ nr_tb := nr_in (i := 344) (by decide +kernel) (by decide +kernel)
theorem wc_yX3_readAct : Cond.code yX3_readAct cX3_readAct 4 none ∈ nr_tb := nr_in (i := 345) (by decide +kernel) (by decide +kernel)
theorem wm_RX3_68 : Cond.methodLink RX3 68 Lib.Math.max.name ∈ nr_tb := nr_in (i := 346) (by decide +kernel) (by decide +kernel)
theorem nr_max_s : Cond.static Lib.Math.max.name ∈ nr_tb := nr_in (i := 347) (by decide +kernel) (by decide +kernel)
theorem nr_max_c : Cond.code Lib.Math.max.name Lib.Math.max.code 2 (some .int) ∈ nr_tb := nr_in (i := 348) (by decide +kernel) (by decide +kernel)
theorem wm_RX3_77 : Cond.methodLinkNest RX3 77 yX5_put RX5 ∈ nr_tb := nr_in (i := 349) (by decide +kernel) (by decide +kernel)
theorem ws_yX5_put : Cond.static yX5_put ∈ nr_tb := nr_in (i := 350) (by decide +kernel) (by decide +kernel)
theorem wc_yX5_put : Cond.code yX5_put cX5_put 3 none ∈ nr_tb := nr_in (i := 351) (by decide +kernel) (by decide +kernel)
theorem wm_RX3_81 : Cond.methodLink RX3 81 yX3_readRest ∈ nr_tb := nr_in (i := 352) (by decide +kernel) (by decide +kernel)
theorem wi_yX3_readRest : Cond.instanceMethod yX3_readRest ∈ nr_tb := nr_in (i := 354) (by decide +kernel) (by decide +kernel)
theorem wc_yX3_readRest : Cond.code yX3_readRest cX3_readRest 4 none ∈ nr_tb := nr_in (i := 355) (by decide +kernel) (by decide +kernel)
theorem wm_RX3_85 : Cond.methodLink RX3 85 yX3_readFigure ∈ nr_tb := nr_in (i := 356) (by decide +kernel) (by decide +kernel)
theorem wi_yX3_readFigure : Cond.instanceMethod yX3_readFigure ∈ nr_tb := nr_in (i := 358) (by decide +kernel) (by decide +kernel)
theorem wc_yX3_readFigure : Cond.code yX3_readFigure cX3_readFigure 2 (some .int) ∈ nr_tb := nr_in (i := 359) (by decide +kernel) (by decide +kernel)
theorem wm_RX3_88 : Cond.methodLink RX3 88 yX3_readParts ∈ nr_tb := nr_in (i := 360) (by decide +kernel) (by decide +kernel)
theorem wi_yX3_readParts : Cond.instanceMethod yX3_readParts ∈ nr_tb := nr_in (i := 362) (by decide +kernel) (by decide +kernel)
theorem wc_yX3_readParts : Cond.code yX3_readParts cX3_readParts 5 none ∈ nr_tb := nr_in (i := 363) (by decide +kernel) (by decide +kernel)
theorem wm_RX3_92 : Cond.methodLink RX3 92 yX3_expect ∈ nr_tb := nr_in (i := 364) (by decide +kernel) (by decide +kernel)
theorem wi_yX3_expect : Cond.instanceMethod yX3_expect ∈ nr_tb := nr_in (i := 366) (by decide +kernel) (by decide +kernel)
theorem wc_yX3_expect : Cond.code yX3_expect cX3_expect 2 none ∈ nr_tb := nr_in (i := 367) (by decide +kernel) (by decide +kernel)
theorem wm_RX5_113 : Cond.methodLink RX5 113 yX2_walk ∈ nr_tb := nr_in (i := 368) (by decide +kernel) (by decide +kernel)
theorem wi_yX2_walk : Cond.instanceMethod yX2_walk ∈ nr_tb := nr_in (i := 369) (by decide +kernel) (by decide +kernel)
theorem we_yX2_walk : Cond.selects RX2 yX2_walk yX2_walk ∈ nr_tb := nr_in (i := 370) (by decide +kernel) (by decide +kernel)
theorem wc_yX2_walk : Cond.code yX2_walk cX2_walk 3 (some .int) ∈ nr_tb := nr_in (i := 371) (by decide +kernel) (by decide +kernel)
theorem wm_RX2_23 : Cond.methodLink RX2 23 yX4_begin ∈ nr_tb := nr_in (i := 372) (by decide +kernel) (by decide +kernel)
theorem wm_RX2_28 : Cond.methodLink RX2 28 yX3_acts ∈ nr_tb := nr_in (i := 373) (by decide +kernel) (by decide +kernel)
theorem wi_yX3_acts : Cond.instanceMethod yX3_acts ∈ nr_tb := nr_in (i := 374) (by decide +kernel) (by decide +kernel)
theorem we_yX3_acts : Cond.selects RX3 yX3_acts yX3_acts ∈ nr_tb := nr_in (i := 375) (by decide +kernel) (by decide +kernel)
theorem wc_yX3_acts : Cond.code yX3_acts cX3_acts 1 (some .int) ∈ nr_tb := nr_in (i := 376) (by decide +kernel) (by decide +kernel)
theorem wm_RX2_34 : Cond.methodLink RX2 34 yX2_doActs ∈ nr_tb := nr_in (i := 377) (by decide +kernel) (by decide +kernel)
theorem wi_yX2_doActs : Cond.instanceMethod yX2_doActs ∈ nr_tb := nr_in (i := 379) (by decide +kernel) (by decide +kernel)
theorem wc_yX2_doActs : Cond.code yX2_doActs cX2_doActs 7 (some .boolean) ∈ nr_tb := nr_in (i := 380) (by decide +kernel) (by decide +kernel)
theorem wm_RX2_51 : Cond.methodLink RX2 51 yX2_doAct ∈ nr_tb := nr_in (i := 381) (by decide +kernel) (by decide +kernel)
theorem wi_yX2_doAct : Cond.instanceMethod yX2_doAct ∈ nr_tb := nr_in (i := 383) (by decide +kernel) (by decide +kernel)
theorem wc_yX2_doAct : Cond.code yX2_doAct cX2_doAct 4 (some .boolean) ∈ nr_tb := nr_in (i := 384) (by decide +kernel) (by decide +kernel)
theorem wm_RX2_58 : Cond.methodLink RX2 58 yX4_tick ∈ nr_tb := nr_in (i := 385) (by decide +kernel) (by decide +kernel)
theorem wi_yX4_tick : Cond.instanceMethod yX4_tick ∈ nr_tb := nr_in (i := 386) (by decide +kernel) (by decide +kernel)
theorem we_yX4_tick : Cond.selects RX4 yX4_tick yX4_tick ∈ nr_tb := nr_in (i := 387) (by decide +kernel) (by decide +kernel)
theorem wc_yX4_tick : Cond.code yX4_tick cX4_tick 1 (some .boolean) ∈ nr_tb := nr_in (i := 388) (by decide +kernel) (by decide +kernel)
theorem wm_RX2_62 : Cond.methodLink RX2 62 yX2_befalls ∈ nr_tb := nr_in (i := 389) (by decide +kernel) (by decide +kernel)
theorem wi_yX2_befalls : Cond.instanceMethod yX2_befalls ∈ nr_tb := nr_in (i := 391) (by decide +kernel) (by decide +kernel)
theorem wc_yX2_befalls : Cond.code yX2_befalls cX2_befalls 3 (some .boolean) ∈ nr_tb := nr_in (i := 392) (by decide +kernel) (by decide +kernel)
theorem wm_RX2_87 : Cond.methodLink RX2 87 yX4_befall ∈ nr_tb := nr_in (i := 393) (by decide +kernel) (by decide +kernel)
theorem wi_yX4_befall : Cond.instanceMethod yX4_befall ∈ nr_tb := nr_in (i := 394) (by decide +kernel) (by decide +kernel)
theorem we_yX4_befall : Cond.selects RX4 yX4_befall yX4_befall ∈ nr_tb := nr_in (i := 395) (by decide +kernel) (by decide +kernel)
theorem wc_yX4_befall : Cond.code yX4_befall cX4_befall 4 none ∈ nr_tb := nr_in (i := 396) (by decide +kernel) (by decide +kernel)
theorem wm_RX2_66 : Cond.methodLink RX2 66 yX3_sign ∈ nr_tb := nr_in (i := 397) (by decide +kernel) (by decide +kernel)
theorem wi_yX3_sign : Cond.instanceMethod yX3_sign ∈ nr_tb := nr_in (i := 398) (by decide +kernel) (by decide +kernel)
theorem we_yX3_sign : Cond.selects RX3 yX3_sign yX3_sign ∈ nr_tb := nr_in (i := 399) (by decide +kernel) (by decide +kernel)
theorem wc_yX3_sign : Cond.code yX3_sign cX3_sign 2 (some .int) ∈ nr_tb := nr_in (i := 400) (by decide +kernel) (by decide +kernel)
theorem wm_RX3_40 : Cond.methodLinkNest RX3 40 yX5_at RX5 ∈ nr_tb := nr_in (i := 401) (by decide +kernel) (by decide +kernel)
theorem wm_RX2_69 : Cond.methodLink RX2 69 yX2_goInto ∈ nr_tb := nr_in (i := 402) (by decide +kernel) (by decide +kernel)
theorem wi_yX2_goInto : Cond.instanceMethod yX2_goInto ∈ nr_tb := nr_in (i := 404) (by decide +kernel) (by decide +kernel)
theorem wc_yX2_goInto : Cond.code yX2_goInto cX2_goInto 6 (some .boolean) ∈ nr_tb := nr_in (i := 405) (by decide +kernel) (by decide +kernel)
theorem wm_RX2_84 : Cond.methodLink RX2 84 yX3_figure ∈ nr_tb := nr_in (i := 406) (by decide +kernel) (by decide +kernel)
theorem wi_yX3_figure : Cond.instanceMethod yX3_figure ∈ nr_tb := nr_in (i := 407) (by decide +kernel) (by decide +kernel)
theorem we_yX3_figure : Cond.selects RX3 yX3_figure yX3_figure ∈ nr_tb := nr_in (i := 408) (by decide +kernel) (by decide +kernel)
theorem wc_yX3_figure : Cond.code yX3_figure cX3_figure 2 (some .int) ∈ nr_tb := nr_in (i := 409) (by decide +kernel) (by decide +kernel)
theorem wm_RX2_106 : Cond.methodLink RX2 106 yX0_admits ∈ nr_tb := nr_in (i := 410) (by decide +kernel) (by decide +kernel)
theorem wi_yX0_admits : Cond.instanceMethod yX0_admits ∈ nr_tb := nr_in (i := 411) (by decide +kernel) (by decide +kernel)
theorem we_yX0_admits : Cond.selects RX0 yX0_admits yX0_admits ∈ nr_tb := nr_in (i := 412) (by decide +kernel) (by decide +kernel)
theorem wc_yX0_admits : Cond.code yX0_admits cX0_admits 3 (some .boolean) ∈ nr_tb := nr_in (i := 413) (by decide +kernel) (by decide +kernel)
theorem wm_RX0_27 : Cond.methodLink RX0 27 yX0_keyring ∈ nr_tb := nr_in (i := 414) (by decide +kernel) (by decide +kernel)
theorem wm_RX2_110 : Cond.methodLink RX2 110 yX0_openDoor ∈ nr_tb := nr_in (i := 415) (by decide +kernel) (by decide +kernel)
theorem wi_yX0_openDoor : Cond.instanceMethod yX0_openDoor ∈ nr_tb := nr_in (i := 416) (by decide +kernel) (by decide +kernel)
theorem we_yX0_openDoor : Cond.selects RX0 yX0_openDoor yX0_openDoor ∈ nr_tb := nr_in (i := 417) (by decide +kernel) (by decide +kernel)
theorem wc_yX0_openDoor : Cond.code yX0_openDoor cX0_openDoor 2 none ∈ nr_tb := nr_in (i := 418) (by decide +kernel) (by decide +kernel)
theorem wm_RX0_34 : Cond.methodLink RX0 34 Lib.Math.min.name ∈ nr_tb := nr_in (i := 419) (by decide +kernel) (by decide +kernel)
theorem nr_min_s : Cond.static Lib.Math.min.name ∈ nr_tb := nr_in (i := 420) (by decide +kernel) (by decide +kernel)
theorem nr_min_c : Cond.code Lib.Math.min.name Lib.Math.min.code 2 (some .int) ∈ nr_tb := nr_in (i := 421) (by decide +kernel) (by decide +kernel)
theorem wm_RX2_113 : Cond.methodLink RX2 113 yX4_doorOpened ∈ nr_tb := nr_in (i := 422) (by decide +kernel) (by decide +kernel)
theorem wi_yX4_doorOpened : Cond.instanceMethod yX4_doorOpened ∈ nr_tb := nr_in (i := 423) (by decide +kernel) (by decide +kernel)
theorem we_yX4_doorOpened : Cond.selects RX4 yX4_doorOpened yX4_doorOpened ∈ nr_tb := nr_in (i := 424) (by decide +kernel) (by decide +kernel)
theorem wc_yX4_doorOpened : Cond.code yX4_doorOpened cX4_doorOpened 2 none ∈ nr_tb := nr_in (i := 425) (by decide +kernel) (by decide +kernel)
theorem wm_RX4_48 : Cond.methodLink RX4 48 Lib.Math.max.name ∈ nr_tb := nr_in (i := 426) (by decide +kernel) (by decide +kernel)
theorem wm_RX4_54 : Cond.methodLink RX4 54 yX4_write ∈ nr_tb := nr_in (i := 427) (by decide +kernel) (by decide +kernel)
theorem wi_yX4_write : Cond.instanceMethod yX4_write ∈ nr_tb := nr_in (i := 429) (by decide +kernel) (by decide +kernel)
theorem wc_yX4_write : Cond.code yX4_write cX4_write 2 none ∈ nr_tb := nr_in (i := 430) (by decide +kernel) (by decide +kernel)
theorem wm_RX2_116 : Cond.methodLink RX2 116 yX0_loudness ∈ nr_tb := nr_in (i := 431) (by decide +kernel) (by decide +kernel)
theorem wm_RX2_119 : Cond.methodLink RX2 119 yX0_wakes ∈ nr_tb := nr_in (i := 432) (by decide +kernel) (by decide +kernel)
theorem wi_yX0_wakes : Cond.instanceMethod yX0_wakes ∈ nr_tb := nr_in (i := 433) (by decide +kernel) (by decide +kernel)
theorem we_yX0_wakes : Cond.selects RX0 yX0_wakes yX0_wakes ∈ nr_tb := nr_in (i := 434) (by decide +kernel) (by decide +kernel)
theorem wc_yX0_wakes : Cond.code yX0_wakes cX0_wakes 4 (some .boolean) ∈ nr_tb := nr_in (i := 435) (by decide +kernel) (by decide +kernel)
theorem wm_RX0_31 : Cond.methodLink RX0 31 yX0_sleepNow ∈ nr_tb := nr_in (i := 436) (by decide +kernel) (by decide +kernel)
theorem wi_yX0_sleepNow : Cond.instanceMethod yX0_sleepNow ∈ nr_tb := nr_in (i := 437) (by decide +kernel) (by decide +kernel)
theorem we_yX0_sleepNow : Cond.selects RX0 yX0_sleepNow yX0_sleepNow ∈ nr_tb := nr_in (i := 438) (by decide +kernel) (by decide +kernel)
theorem wc_yX0_sleepNow : Cond.code yX0_sleepNow cX0_sleepNow 2 (some .int) ∈ nr_tb := nr_in (i := 439) (by decide +kernel) (by decide +kernel)
theorem wm_RX2_122 : Cond.methodLink RX2 122 yX2_doFirstPart ∈ nr_tb := nr_in (i := 440) (by decide +kernel) (by decide +kernel)
theorem wi_yX2_doFirstPart : Cond.instanceMethod yX2_doFirstPart ∈ nr_tb := nr_in (i := 442) (by decide +kernel) (by decide +kernel)
theorem wc_yX2_doFirstPart : Cond.code yX2_doFirstPart cX2_doFirstPart 4 (some .boolean) ∈ nr_tb := nr_in (i := 443) (by decide +kernel) (by decide +kernel)
theorem wm_RX2_100 : Cond.methodLink RX2 100 yX3_middle ∈ nr_tb := nr_in (i := 444) (by decide +kernel) (by decide +kernel)
theorem wi_yX3_middle : Cond.instanceMethod yX3_middle ∈ nr_tb := nr_in (i := 445) (by decide +kernel) (by decide +kernel)
theorem we_yX3_middle : Cond.selects RX3 yX3_middle yX3_middle ∈ nr_tb := nr_in (i := 446) (by decide +kernel) (by decide +kernel)
theorem wc_yX3_middle : Cond.code yX3_middle cX3_middle 2 (some .int) ∈ nr_tb := nr_in (i := 447) (by decide +kernel) (by decide +kernel)
theorem wm_RX2_125 : Cond.methodLink RX2 125 yX4_doorShut ∈ nr_tb := nr_in (i := 448) (by decide +kernel) (by decide +kernel)
theorem wi_yX4_doorShut : Cond.instanceMethod yX4_doorShut ∈ nr_tb := nr_in (i := 449) (by decide +kernel) (by decide +kernel)
theorem we_yX4_doorShut : Cond.selects RX4 yX4_doorShut yX4_doorShut ∈ nr_tb := nr_in (i := 450) (by decide +kernel) (by decide +kernel)
theorem wc_yX4_doorShut : Cond.code yX4_doorShut cX4_doorShut 2 none ∈ nr_tb := nr_in (i := 451) (by decide +kernel) (by decide +kernel)
theorem wm_RX2_72 : Cond.methodLink RX2 72 yX2_doOrElse ∈ nr_tb := nr_in (i := 452) (by decide +kernel) (by decide +kernel)
theorem wi_yX2_doOrElse : Cond.instanceMethod yX2_doOrElse ∈ nr_tb := nr_in (i := 454) (by decide +kernel) (by decide +kernel)
theorem wc_yX2_doOrElse : Cond.code yX2_doOrElse cX2_doOrElse 4 (some .boolean) ∈ nr_tb := nr_in (i := 455) (by decide +kernel) (by decide +kernel)
theorem wm_RX2_47 : Cond.methodLink RX2 47 yX4_fact ∈ nr_tb := nr_in (i := 456) (by decide +kernel) (by decide +kernel)
theorem wi_yX4_fact : Cond.instanceMethod yX4_fact ∈ nr_tb := nr_in (i := 457) (by decide +kernel) (by decide +kernel)
theorem we_yX4_fact : Cond.selects RX4 yX4_fact yX4_fact ∈ nr_tb := nr_in (i := 458) (by decide +kernel) (by decide +kernel)
theorem wc_yX4_fact : Cond.code yX4_fact cX4_fact 2 (some .int) ∈ nr_tb := nr_in (i := 459) (by decide +kernel) (by decide +kernel)
theorem wm_RX4_44 : Cond.methodLinkNest RX4 44 yX5_at RX5 ∈ nr_tb := nr_in (i := 460) (by decide +kernel) (by decide +kernel)
theorem wm_RX2_128 : Cond.methodLinkNest RX2 128 yX5_within RX5 ∈ nr_tb := nr_in (i := 461) (by decide +kernel) (by decide +kernel)
theorem wm_RX2_131 : Cond.methodLink RX2 131 yX2_doSecondPart ∈ nr_tb := nr_in (i := 462) (by decide +kernel) (by decide +kernel)
theorem wi_yX2_doSecondPart : Cond.instanceMethod yX2_doSecondPart ∈ nr_tb := nr_in (i := 464) (by decide +kernel) (by decide +kernel)
theorem wc_yX2_doSecondPart : Cond.code yX2_doSecondPart cX2_doSecondPart 4 (some .boolean) ∈ nr_tb := nr_in (i := 465) (by decide +kernel) (by decide +kernel)
theorem wm_RX2_103 : Cond.methodLink RX2 103 yX4_calm ∈ nr_tb := nr_in (i := 466) (by decide +kernel) (by decide +kernel)
theorem wm_RX2_55 : Cond.methodLink RX2 55 yX3_next ∈ nr_tb := nr_in (i := 467) (by decide +kernel) (by decide +kernel)
theorem wi_yX3_next : Cond.instanceMethod yX3_next ∈ nr_tb := nr_in (i := 468) (by decide +kernel) (by decide +kernel)
theorem we_yX3_next : Cond.selects RX3 yX3_next yX3_next ∈ nr_tb := nr_in (i := 469) (by decide +kernel) (by decide +kernel)
theorem wc_yX3_next : Cond.code yX3_next cX3_next 2 (some .int) ∈ nr_tb := nr_in (i := 470) (by decide +kernel) (by decide +kernel)
theorem wm_RX2_75 : Cond.methodLink RX2 75 yX2_doAndHear ∈ nr_tb := nr_in (i := 471) (by decide +kernel) (by decide +kernel)
theorem wi_yX2_doAndHear : Cond.instanceMethod yX2_doAndHear ∈ nr_tb := nr_in (i := 473) (by decide +kernel) (by decide +kernel)
theorem wc_yX2_doAndHear : Cond.code yX2_doAndHear cX2_doAndHear 5 (some .boolean) ∈ nr_tb := nr_in (i := 474) (by decide +kernel) (by decide +kernel)
theorem wm_RX2_94 : Cond.methodLink RX2 94 yX0_addToSum ∈ nr_tb := nr_in (i := 475) (by decide +kernel) (by decide +kernel)
theorem wi_yX0_addToSum : Cond.instanceMethod yX0_addToSum ∈ nr_tb := nr_in (i := 476) (by decide +kernel) (by decide +kernel)
theorem we_yX0_addToSum : Cond.selects RX0 yX0_addToSum yX0_addToSum ∈ nr_tb := nr_in (i := 477) (by decide +kernel) (by decide +kernel)
theorem wc_yX0_addToSum : Cond.code yX0_addToSum cX0_addToSum 2 none ∈ nr_tb := nr_in (i := 478) (by decide +kernel) (by decide +kernel)
theorem wm_RX2_78 : Cond.methodLink RX2 78 yX2_doAndReport ∈ nr_tb := nr_in (i := 479) (by decide +kernel) (by decide +kernel)
theorem wi_yX2_doAndReport : Cond.instanceMethod yX2_doAndReport ∈ nr_tb := nr_in (i := 481) (by decide +kernel) (by decide +kernel)
theorem wc_yX2_doAndReport : Cond.code yX2_doAndReport cX2_doAndReport 4 (some .boolean) ∈ nr_tb := nr_in (i := 482) (by decide +kernel) (by decide +kernel)
theorem wm_RX2_134 : Cond.methodLink RX2 134 yX4_report ∈ nr_tb := nr_in (i := 483) (by decide +kernel) (by decide +kernel)
theorem wi_yX4_report : Cond.instanceMethod yX4_report ∈ nr_tb := nr_in (i := 484) (by decide +kernel) (by decide +kernel)
theorem we_yX4_report : Cond.selects RX4 yX4_report yX4_report ∈ nr_tb := nr_in (i := 485) (by decide +kernel) (by decide +kernel)
theorem wc_yX4_report : Cond.code yX4_report cX4_report 1 none ∈ nr_tb := nr_in (i := 486) (by decide +kernel) (by decide +kernel)
theorem wm_RX4_40 : Cond.methodLink RX4 40 yX4_befall ∈ nr_tb := nr_in (i := 487) (by decide +kernel) (by decide +kernel)
theorem wm_RX2_81 : Cond.methodLink RX2 81 yX2_doSoOften ∈ nr_tb := nr_in (i := 488) (by decide +kernel) (by decide +kernel)
theorem wi_yX2_doSoOften : Cond.instanceMethod yX2_doSoOften ∈ nr_tb := nr_in (i := 490) (by decide +kernel) (by decide +kernel)
theorem wc_yX2_doSoOften : Cond.code yX2_doSoOften cX2_doSoOften 6 (some .boolean) ∈ nr_tb := nr_in (i := 491) (by decide +kernel) (by decide +kernel)
theorem wm_RX2_91 : Cond.methodLink RX2 91 yX4_doorsOpen ∈ nr_tb := nr_in (i := 492) (by decide +kernel) (by decide +kernel)
theorem wi_yX4_doorsOpen : Cond.instanceMethod yX4_doorsOpen ∈ nr_tb := nr_in (i := 493) (by decide +kernel) (by decide +kernel)
theorem we_yX4_doorsOpen : Cond.selects RX4 yX4_doorsOpen yX4_doorsOpen ∈ nr_tb := nr_in (i := 494) (by decide +kernel) (by decide +kernel)
theorem wc_yX4_doorsOpen : Cond.code yX4_doorsOpen cX4_doorsOpen 1 (some .int) ∈ nr_tb := nr_in (i := 495) (by decide +kernel) (by decide +kernel)
theorem wm_RX2_97 : Cond.methodLink RX2 97 yX2_doInRoom ∈ nr_tb := nr_in (i := 496) (by decide +kernel) (by decide +kernel)
theorem wi_yX2_doInRoom : Cond.instanceMethod yX2_doInRoom ∈ nr_tb := nr_in (i := 498) (by decide +kernel) (by decide +kernel)
theorem wc_yX2_doInRoom : Cond.code yX2_doInRoom cX2_doInRoom 3 (some .boolean) ∈ nr_tb := nr_in (i := 499) (by decide +kernel) (by decide +kernel)
theorem wm_RX2_137 : Cond.methodLink RX2 137 yX0_turnLamp ∈ nr_tb := nr_in (i := 500) (by decide +kernel) (by decide +kernel)
theorem wi_yX0_turnLamp : Cond.instanceMethod yX0_turnLamp ∈ nr_tb := nr_in (i := 501) (by decide +kernel) (by decide +kernel)
theorem we_yX0_turnLamp : Cond.selects RX0 yX0_turnLamp yX0_turnLamp ∈ nr_tb := nr_in (i := 502) (by decide +kernel) (by decide +kernel)
theorem wc_yX0_turnLamp : Cond.code yX0_turnLamp cX0_turnLamp 2 none ∈ nr_tb := nr_in (i := 503) (by decide +kernel) (by decide +kernel)
theorem wm_RX2_140 : Cond.methodLink RX2 140 yX0_takeKey ∈ nr_tb := nr_in (i := 504) (by decide +kernel) (by decide +kernel)
theorem wi_yX0_takeKey : Cond.instanceMethod yX0_takeKey ∈ nr_tb := nr_in (i := 505) (by decide +kernel) (by decide +kernel)
theorem we_yX0_takeKey : Cond.selects RX0 yX0_takeKey yX0_takeKey ∈ nr_tb := nr_in (i := 506) (by decide +kernel) (by decide +kernel)
theorem wc_yX0_takeKey : Cond.code yX0_takeKey cX0_takeKey 3 none ∈ nr_tb := nr_in (i := 507) (by decide +kernel) (by decide +kernel)
theorem wm_RX0_39 : Cond.methodLink RX0 39 yX0_giveKeys ∈ nr_tb := nr_in (i := 508) (by decide +kernel) (by decide +kernel)
theorem wm_RX2_143 : Cond.methodLink RX2 143 yX0_cell ∈ nr_tb := nr_in (i := 509) (by decide +kernel) (by decide +kernel)
theorem wm_RX2_147 : Cond.methodLink RX2 147 yX0_sleepNow ∈ nr_tb := nr_in (i := 510) (by decide +kernel) (by decide +kernel)
theorem wm_RX2_38 : Cond.methodLink RX2 38 yX0_sum ∈ nr_tb := nr_in (i := 511) (by decide +kernel) (by decide +kernel)
theorem wi_yX0_sum : Cond.instanceMethod yX0_sum ∈ nr_tb := nr_in (i := 512) (by decide +kernel) (by decide +kernel)
theorem we_yX0_sum : Cond.selects RX0 yX0_sum yX0_sum ∈ nr_tb := nr_in (i := 513) (by decide +kernel) (by decide +kernel)
theorem wc_yX0_sum : Cond.code yX0_sum cX0_sum 1 (some .int) ∈ nr_tb := nr_in (i := 514) (by decide +kernel) (by decide +kernel)
theorem wm_RX2_43 : Cond.methodLink RX2 43 yX4_close ∈ nr_tb := nr_in (i := 515) (by decide +kernel) (by decide +kernel)
theorem wi_yX4_close : Cond.instanceMethod yX4_close ∈ nr_tb := nr_in (i := 516) (by decide +kernel) (by decide +kernel)
theorem we_yX4_close : Cond.selects RX4 yX4_close yX4_close ∈ nr_tb := nr_in (i := 517) (by decide +kernel) (by decide +kernel)
theorem wc_yX4_close : Cond.code yX4_close cX4_close 2 none ∈ nr_tb := nr_in (i := 518) (by decide +kernel) (by decide +kernel)
theorem wm_RL_45 : Cond.methodLink RL 45 yX5_tries ∈ nr_tb := nr_in (i := 519) (by decide +kernel) (by decide +kernel)
theorem wi_yX5_tries : Cond.instanceMethod yX5_tries ∈ nr_tb := nr_in (i := 520) (by decide +kernel) (by decide +kernel)
theorem we_yX5_tries : Cond.selects RX5 yX5_tries yX5_tries ∈ nr_tb := nr_in (i := 521) (by decide +kernel) (by decide +kernel)
theorem wc_yX5_tries : Cond.code yX5_tries cX5_tries 2 (some .int) ∈ nr_tb := nr_in (i := 522) (by decide +kernel) (by decide +kernel)
theorem wm_RX5_117 : Cond.methodLink RX5 117 yX0_become ∈ nr_tb := nr_in (i := 523) (by decide +kernel) (by decide +kernel)
theorem wi_yX0_become : Cond.instanceMethod yX0_become ∈ nr_tb := nr_in (i := 524) (by decide +kernel) (by decide +kernel)
theorem we_yX0_become : Cond.selects RX0 yX0_become yX0_become ∈ nr_tb := nr_in (i := 525) (by decide +kernel) (by decide +kernel)
theorem wc_yX0_become : Cond.code yX0_become cX0_become 2 none ∈ nr_tb := nr_in (i := 526) (by decide +kernel) (by decide +kernel)
theorem wm_RX0_43 : Cond.methodLink RX0 43 arraycopyName ∈ nr_tb := nr_in (i := 527) (by decide +kernel) (by decide +kernel)
theorem wm_RL_49 : Cond.methodLink RL 49 yX5_often ∈ nr_tb := nr_in (i := 528) (by decide +kernel) (by decide +kernel)
theorem wi_yX5_often : Cond.instanceMethod yX5_often ∈ nr_tb := nr_in (i := 529) (by decide +kernel) (by decide +kernel)
theorem we_yX5_often : Cond.selects RX5 yX5_often yX5_often ∈ nr_tb := nr_in (i := 530) (by decide +kernel) (by decide +kernel)
theorem wc_yX5_often : Cond.code yX5_often cX5_often 5 (some .int) ∈ nr_tb := nr_in (i := 531) (by decide +kernel) (by decide +kernel)
theorem wm_RL_53 : Cond.methodLink RL 53 yX5_was ∈ nr_tb := nr_in (i := 532) (by decide +kernel) (by decide +kernel)
theorem wi_yX5_was : Cond.instanceMethod yX5_was ∈ nr_tb := nr_in (i := 533) (by decide +kernel) (by decide +kernel)
theorem we_yX5_was : Cond.selects RX5 yX5_was yX5_was ∈ nr_tb := nr_in (i := 534) (by decide +kernel) (by decide +kernel)
theorem wc_yX5_was : Cond.code yX5_was cX5_was 2 (some .int) ∈ nr_tb := nr_in (i := 535) (by decide +kernel) (by decide +kernel)
theorem wm_RX5_120 : Cond.methodLink RX5 120 yX4_fact ∈ nr_tb := nr_in (i := 536) (by decide +kernel) (by decide +kernel)
theorem wm_RL_57 : Cond.methodLink RL 57 yX5_root ∈ nr_tb := nr_in (i := 537) (by decide +kernel) (by decide +kernel)
theorem wi_yX5_root : Cond.instanceMethod yX5_root ∈ nr_tb := nr_in (i := 538) (by decide +kernel) (by decide +kernel)
theorem we_yX5_root : Cond.selects RX5 yX5_root yX5_root ∈ nr_tb := nr_in (i := 539) (by decide +kernel) (by decide +kernel)
theorem wc_yX5_root : Cond.code yX5_root cX5_root 1 (some .int) ∈ nr_tb := nr_in (i := 540) (by decide +kernel) (by decide +kernel)
theorem wm_RX5_123 : Cond.methodLink RX5 123 yX4_innermost ∈ nr_tb := nr_in (i := 541) (by decide +kernel) (by decide +kernel)
theorem wi_yX4_innermost : Cond.instanceMethod yX4_innermost ∈ nr_tb := nr_in (i := 542) (by decide +kernel) (by decide +kernel)
theorem we_yX4_innermost : Cond.selects RX4 yX4_innermost yX4_innermost ∈ nr_tb := nr_in (i := 543) (by decide +kernel) (by decide +kernel)
theorem wc_yX4_innermost : Cond.code yX4_innermost cX4_innermost 1 (some .int) ∈ nr_tb := nr_in (i := 544) (by decide +kernel) (by decide +kernel)
theorem wm_RL_61 : Cond.methodLink RL 61 yX5_diary ∈ nr_tb := nr_in (i := 545) (by decide +kernel) (by decide +kernel)
theorem wi_yX5_diary : Cond.instanceMethod yX5_diary ∈ nr_tb := nr_in (i := 546) (by decide +kernel) (by decide +kernel)
theorem we_yX5_diary : Cond.selects RX5 yX5_diary yX5_diary ∈ nr_tb := nr_in (i := 547) (by decide +kernel) (by decide +kernel)
theorem wc_yX5_diary : Cond.code yX5_diary cX5_diary 2 (some .int) ∈ nr_tb := nr_in (i := 548) (by decide +kernel) (by decide +kernel)
theorem wm_RX5_126 : Cond.methodLink RX5 126 yX4_written ∈ nr_tb := nr_in (i := 549) (by decide +kernel) (by decide +kernel)
theorem wi_yX4_written : Cond.instanceMethod yX4_written ∈ nr_tb := nr_in (i := 550) (by decide +kernel) (by decide +kernel)
theorem we_yX4_written : Cond.selects RX4 yX4_written yX4_written ∈ nr_tb := nr_in (i := 551) (by decide +kernel) (by decide +kernel)
theorem wc_yX4_written : Cond.code yX4_written cX4_written 1 (some .int) ∈ nr_tb := nr_in (i := 552) (by decide +kernel) (by decide +kernel)
theorem wm_RX5_129 : Cond.methodLink RX5 129 yX4_entry ∈ nr_tb := nr_in (i := 553) (by decide +kernel) (by decide +kernel)
theorem wi_yX4_entry : Cond.instanceMethod yX4_entry ∈ nr_tb := nr_in (i := 554) (by decide +kernel) (by decide +kernel)
theorem we_yX4_entry : Cond.selects RX4 yX4_entry yX4_entry ∈ nr_tb := nr_in (i := 555) (by decide +kernel) (by decide +kernel)
theorem wc_yX4_entry : Cond.code yX4_entry cX4_entry 2 (some .int) ∈ nr_tb := nr_in (i := 556) (by decide +kernel) (by decide +kernel)
theorem wm_RL_65 : Cond.methodLink RL 65 yX5_open ∈ nr_tb := nr_in (i := 557) (by decide +kernel) (by decide +kernel)
theorem wi_yX5_open : Cond.instanceMethod yX5_open ∈ nr_tb := nr_in (i := 558) (by decide +kernel) (by decide +kernel)
theorem we_yX5_open : Cond.selects RX5 yX5_open yX5_open ∈ nr_tb := nr_in (i := 559) (by decide +kernel) (by decide +kernel)
theorem wc_yX5_open : Cond.code yX5_open cX5_open 1 (some .int) ∈ nr_tb := nr_in (i := 560) (by decide +kernel) (by decide +kernel)
theorem wm_RX5_132 : Cond.methodLink RX5 132 yX4_doorsOpen ∈ nr_tb := nr_in (i := 561) (by decide +kernel) (by decide +kernel)
theorem wm_RL_69 : Cond.methodLink RL 69 yX5_fewest ∈ nr_tb := nr_in (i := 562) (by decide +kernel) (by decide +kernel)
theorem wi_yX5_fewest : Cond.instanceMethod yX5_fewest ∈ nr_tb := nr_in (i := 563) (by decide +kernel) (by decide +kernel)
theorem we_yX5_fewest : Cond.selects RX5 yX5_fewest yX5_fewest ∈ nr_tb := nr_in (i := 564) (by decide +kernel) (by decide +kernel)
theorem wc_yX5_fewest : Cond.code yX5_fewest cX5_fewest 3 (some .int) ∈ nr_tb := nr_in (i := 565) (by decide +kernel) (by decide +kernel)
theorem wf_RX5_135 : Cond.fieldLink RX5 135 "NightRounds" "KEY_SETS" "[I" ∈ nr_tb := nr_in (i := 566) (by decide +kernel) (by decide +kernel)
theorem wm_RX5_138 : Cond.methodLink RX5 138 yX5_endWithKeys ∈ nr_tb := nr_in (i := 568) (by decide +kernel) (by decide +kernel)
theorem wi_yX5_endWithKeys : Cond.instanceMethod yX5_endWithKeys ∈ nr_tb := nr_in (i := 570) (by decide +kernel) (by decide +kernel)
theorem wc_yX5_endWithKeys : Cond.code yX5_endWithKeys cX5_endWithKeys 2 (some .int) ∈ nr_tb := nr_in (i := 571) (by decide +kernel) (by decide +kernel)
theorem wm_RL_73 : Cond.methodLink RL 73 yX5_were ∈ nr_tb := nr_in (i := 572) (by decide +kernel) (by decide +kernel)
theorem wi_yX5_were : Cond.instanceMethod yX5_were ∈ nr_tb := nr_in (i := 573) (by decide +kernel) (by decide +kernel)
theorem we_yX5_were : Cond.selects RX5 yX5_were yX5_were ∈ nr_tb := nr_in (i := 574) (by decide +kernel) (by decide +kernel)
theorem wc_yX5_were : Cond.code yX5_were cX5_were 4 (some .int) ∈ nr_tb := nr_in (i := 575) (by decide +kernel) (by decide +kernel)
theorem wm_RX5_141 : Cond.methodLink RX5 141 yX5_endWith ∈ nr_tb := nr_in (i := 576) (by decide +kernel) (by decide +kernel)
theorem wi_yX5_endWith : Cond.instanceMethod yX5_endWith ∈ nr_tb := nr_in (i := 578) (by decide +kernel) (by decide +kernel)
theorem wc_yX5_endWith : Cond.code yX5_endWith cX5_endWith 4 (some .int) ∈ nr_tb := nr_in (i := 579) (by decide +kernel) (by decide +kernel)
theorem wm_RL_77 : Cond.methodLink RL 77 yX5_cures ∈ nr_tb := nr_in (i := 580) (by decide +kernel) (by decide +kernel)
theorem wi_yX5_cures : Cond.instanceMethod yX5_cures ∈ nr_tb := nr_in (i := 581) (by decide +kernel) (by decide +kernel)
theorem we_yX5_cures : Cond.selects RX5 yX5_cures yX5_cures ∈ nr_tb := nr_in (i := 582) (by decide +kernel) (by decide +kernel)
theorem wc_yX5_cures : Cond.code yX5_cures cX5_cures 5 (some .int) ∈ nr_tb := nr_in (i := 583) (by decide +kernel) (by decide +kernel)
theorem wf_RX5_145 : Cond.fieldLink RX5 145 "NightRounds" "CURED" "[I" ∈ nr_tb := nr_in (i := 584) (by decide +kernel) (by decide +kernel)
theorem wm_RL_81 : Cond.methodLink RL 81 yX5_ends ∈ nr_tb := nr_in (i := 586) (by decide +kernel) (by decide +kernel)
theorem wi_yX5_ends : Cond.instanceMethod yX5_ends ∈ nr_tb := nr_in (i := 587) (by decide +kernel) (by decide +kernel)
theorem we_yX5_ends : Cond.selects RX5 yX5_ends yX5_ends ∈ nr_tb := nr_in (i := 588) (by decide +kernel) (by decide +kernel)
theorem wc_yX5_ends : Cond.code yX5_ends cX5_ends 5 (some .int) ∈ nr_tb := nr_in (i := 589) (by decide +kernel) (by decide +kernel)
theorem wm_RL_85 : Cond.methodLink RL 85 yX5_told ∈ nr_tb := nr_in (i := 590) (by decide +kernel) (by decide +kernel)
theorem wi_yX5_told : Cond.instanceMethod yX5_told ∈ nr_tb := nr_in (i := 591) (by decide +kernel) (by decide +kernel)
theorem we_yX5_told : Cond.selects RX5 yX5_told yX5_told ∈ nr_tb := nr_in (i := 592) (by decide +kernel) (by decide +kernel)
theorem wc_yX5_told : Cond.code yX5_told cX5_told 3 (some .int) ∈ nr_tb := nr_in (i := 593) (by decide +kernel) (by decide +kernel)
theorem wm_RX5_148 : Cond.methodLink RX5 148 yX3_acts ∈ nr_tb := nr_in (i := 594) (by decide +kernel) (by decide +kernel)
theorem wm_RX5_151 : Cond.methodLink RX5 151 yX3_deepest ∈ nr_tb := nr_in (i := 595) (by decide +kernel) (by decide +kernel)
theorem wi_yX3_deepest : Cond.instanceMethod yX3_deepest ∈ nr_tb := nr_in (i := 596) (by decide +kernel) (by decide +kernel)
theorem we_yX3_deepest : Cond.selects RX3 yX3_deepest yX3_deepest ∈ nr_tb := nr_in (i := 597) (by decide +kernel) (by decide +kernel)
theorem wc_yX3_deepest : Cond.code yX3_deepest cX3_deepest 1 (some .int) ∈ nr_tb := nr_in (i := 598) (by decide +kernel) (by decide +kernel)
theorem wm_RX5_154 : Cond.methodLink RX5 154 yX3_roomBits ∈ nr_tb := nr_in (i := 599) (by decide +kernel) (by decide +kernel)
theorem wi_yX3_roomBits : Cond.instanceMethod yX3_roomBits ∈ nr_tb := nr_in (i := 600) (by decide +kernel) (by decide +kernel)
theorem we_yX3_roomBits : Cond.selects RX3 yX3_roomBits yX3_roomBits ∈ nr_tb := nr_in (i := 601) (by decide +kernel) (by decide +kernel)
theorem wc_yX3_roomBits : Cond.code yX3_roomBits cX3_roomBits 1 (some .int) ∈ nr_tb := nr_in (i := 602) (by decide +kernel) (by decide +kernel)
theorem wm_RL_89 : Cond.methodLink RL 89 yX5_draw ∈ nr_tb := nr_in (i := 603) (by decide +kernel) (by decide +kernel)
theorem wi_yX5_draw : Cond.instanceMethod yX5_draw ∈ nr_tb := nr_in (i := 604) (by decide +kernel) (by decide +kernel)
theorem we_yX5_draw : Cond.selects RX5 yX5_draw yX5_draw ∈ nr_tb := nr_in (i := 605) (by decide +kernel) (by decide +kernel)
theorem wc_yX5_draw : Cond.code yX5_draw cX5_draw 2 (some .int) ∈ nr_tb := nr_in (i := 606) (by decide +kernel) (by decide +kernel)
theorem wk_RX5_157 : Cond.constant RX5 157 999999 ∈ nr_tb := nr_in (i := 607) (by decide +kernel) (by decide +kernel)
theorem wm_RX5_158 : Cond.methodLink RX5 158 yX0_drawFrom ∈ nr_tb := nr_in (i := 608) (by decide +kernel) (by decide +kernel)
theorem wi_yX0_drawFrom : Cond.instanceMethod yX0_drawFrom ∈ nr_tb := nr_in (i := 609) (by decide +kernel) (by decide +kernel)
theorem we_yX0_drawFrom : Cond.selects RX0 yX0_drawFrom yX0_drawFrom ∈ nr_tb := nr_in (i := 610) (by decide +kernel) (by decide +kernel)
theorem wc_yX0_drawFrom : Cond.code yX0_drawFrom cX0_drawFrom 5 none ∈ nr_tb := nr_in (i := 611) (by decide +kernel) (by decide +kernel)
theorem wm_RX0_49 : Cond.methodLink RX0 49 yJ7_fill_53178 ∈ nr_tb := nr_in (i := 612) (by decide +kernel) (by decide +kernel)
theorem wk_RX0_55 : Cond.constantLong RX0 55 1103515245 ∈ nr_tb := nr_in (i := 613) (by decide +kernel) (by decide +kernel)
theorem wk_RX0_57 : Cond.constantLong RX0 57 12345 ∈ nr_tb := nr_in (i := 614) (by decide +kernel) (by decide +kernel)
theorem wk_RX0_59 : Cond.constantLong RX0 59 2147483648 ∈ nr_tb := nr_in (i := 615) (by decide +kernel) (by decide +kernel)
theorem wk_RX0_61 : Cond.constantLong RX0 61 65536 ∈ nr_tb := nr_in (i := 616) (by decide +kernel) (by decide +kernel)
theorem wk_RX0_63 : Cond.constantLong RX0 63 5 ∈ nr_tb := nr_in (i := 617) (by decide +kernel) (by decide +kernel)
theorem wk_RX0_65 : Cond.constantLong RX0 65 1024 ∈ nr_tb := nr_in (i := 618) (by decide +kernel) (by decide +kernel)
theorem wk_RX0_67 : Cond.constantLong RX0 67 8 ∈ nr_tb := nr_in (i := 619) (by decide +kernel) (by decide +kernel)
theorem wm_RX0_69 : Cond.methodLink RX0 69 yX0_upToThree ∈ nr_tb := nr_in (i := 620) (by decide +kernel) (by decide +kernel)
theorem ws_yX0_upToThree : Cond.static yX0_upToThree ∈ nr_tb := nr_in (i := 621) (by decide +kernel) (by decide +kernel)
theorem wc_yX0_upToThree : Cond.code yX0_upToThree cX0_upToThree 1 (some .int) ∈ nr_tb := nr_in (i := 622) (by decide +kernel) (by decide +kernel)
theorem wk_RX0_72 : Cond.constantLong RX0 72 4096 ∈ nr_tb := nr_in (i := 623) (by decide +kernel) (by decide +kernel)
theorem wk_RX0_74 : Cond.constantLong RX0 74 16384 ∈ nr_tb := nr_in (i := 624) (by decide +kernel) (by decide +kernel)
theorem wk_RX0_76 : Cond.constantLong RX0 76 10 ∈ nr_tb := nr_in (i := 625) (by decide +kernel) (by decide +kernel)
theorem wm_RL_93 : Cond.methodLink RL 93 yX5_back ∈ nr_tb := nr_in (i := 626) (by decide +kernel) (by decide +kernel)
theorem wi_yX5_back : Cond.instanceMethod yX5_back ∈ nr_tb := nr_in (i := 627) (by decide +kernel) (by decide +kernel)
theorem we_yX5_back : Cond.selects RX5 yX5_back yX5_back ∈ nr_tb := nr_in (i := 628) (by decide +kernel) (by decide +kernel)
theorem wc_yX5_back : Cond.code yX5_back cX5_back 1 (some .int) ∈ nr_tb := nr_in (i := 629) (by decide +kernel) (by decide +kernel)
theorem wm_RX5_161 : Cond.methodLink RX5 161 yX1_held ∈ nr_tb := nr_in (i := 630) (by decide +kernel) (by decide +kernel)
theorem wi_yX1_held : Cond.instanceMethod yX1_held ∈ nr_tb := nr_in (i := 631) (by decide +kernel) (by decide +kernel)
theorem we_yX1_held : Cond.selects RX1 yX1_held yX1_held ∈ nr_tb := nr_in (i := 632) (by decide +kernel) (by decide +kernel)
theorem wc_yX1_held : Cond.code yX1_held cX1_held 1 (some .int) ∈ nr_tb := nr_in (i := 633) (by decide +kernel) (by decide +kernel)
theorem wm_RX5_164 : Cond.methodLink RX5 164 yX1_giveBack ∈ nr_tb := nr_in (i := 634) (by decide +kernel) (by decide +kernel)
theorem wi_yX1_giveBack : Cond.instanceMethod yX1_giveBack ∈ nr_tb := nr_in (i := 635) (by decide +kernel) (by decide +kernel)
theorem we_yX1_giveBack : Cond.selects RX1 yX1_giveBack yX1_giveBack ∈ nr_tb := nr_in (i := 636) (by decide +kernel) (by decide +kernel)
theorem wc_yX1_giveBack : Cond.code yX1_giveBack cX1_giveBack 2 none ∈ nr_tb := nr_in (i := 637) (by decide +kernel) (by decide +kernel)
theorem wm_RL_97 : Cond.methodLink RL 97 yX5_count ∈ nr_tb := nr_in (i := 638) (by decide +kernel) (by decide +kernel)
theorem wi_yX5_count : Cond.instanceMethod yX5_count ∈ nr_tb := nr_in (i := 639) (by decide +kernel) (by decide +kernel)
theorem we_yX5_count : Cond.selects RX5 yX5_count yX5_count ∈ nr_tb := nr_in (i := 640) (by decide +kernel) (by decide +kernel)
theorem wc_yX5_count : Cond.code yX5_count cX5_count 2 (some .int) ∈ nr_tb := nr_in (i := 641) (by decide +kernel) (by decide +kernel)
theorem wm_RX5_177 : Cond.methodLink RX5 177 yX0_sum ∈ nr_tb := nr_in (i := 642) (by decide +kernel) (by decide +kernel)
theorem wm_RL_101 : Cond.methodLink RL 101 yX5_digest ∈ nr_tb := nr_in (i := 643) (by decide +kernel) (by decide +kernel)
theorem wi_yX5_digest : Cond.instanceMethod yX5_digest ∈ nr_tb := nr_in (i := 644) (by decide +kernel) (by decide +kernel)
theorem we_yX5_digest : Cond.selects RX5 yX5_digest yX5_digest ∈ nr_tb := nr_in (i := 645) (by decide +kernel) (by decide +kernel)
theorem wc_yX5_digest : Cond.code yX5_digest cX5_digest 5 (some .long) ∈ nr_tb := nr_in (i := 646) (by decide +kernel) (by decide +kernel)
theorem wk_RX5_180 : Cond.constantLong RX5 180 1973 ∈ nr_tb := nr_in (i := 647) (by decide +kernel) (by decide +kernel)
theorem wk_RX5_182 : Cond.constantLong RX5 182 31 ∈ nr_tb := nr_in (i := 648) (by decide +kernel) (by decide +kernel)
theorem wm_RX5_184 : Cond.methodLink RX5 184 yX5_count ∈ nr_tb := nr_in (i := 649) (by decide +kernel) (by decide +kernel)
theorem wl_RL_10 : Cond.classLink RL 10 RX6 ∈ nr_tb := nr_in (i := 650) (by decide +kernel) (by decide +kernel)
theorem wt_RX6 : Cond.instantiable RX6 36 ∈ nr_tb := nr_in (i := 651) (by decide +kernel) (by decide +kernel)
theorem wm_RL_12 : Cond.methodLink RL 12 yX6_init ∈ nr_tb := nr_in (i := 652) (by decide +kernel) (by decide +kernel)
theorem wi_yX6_init : Cond.instanceMethod yX6_init ∈ nr_tb := nr_in (i := 653) (by decide +kernel) (by decide +kernel)
theorem wc_yX6_init : Cond.code yX6_init cX6_init 1 none ∈ nr_tb := nr_in (i := 654) (by decide +kernel) (by decide +kernel)
theorem wm_RX6_1 : Cond.methodLink RX6 1 objectInit ∈ nr_tb := nr_in (i := 655) (by decide +kernel) (by decide +kernel)
theorem wf_RX6_7 : Cond.fieldLink RX6 7 "NightRoundsModel" "now" "[I" ∈ nr_tb := nr_in (i := 656) (by decide +kernel) (by decide +kernel)
theorem wf_RX6_13 : Cond.fieldLink RX6 13 "NightRoundsModel" "past" "[I" ∈ nr_tb := nr_in (i := 657) (by decide +kernel) (by decide +kernel)
theorem wf_RX6_66 : Cond.fieldLink RX6 66 "NightRoundsModel" "nights" "I" ∈ nr_tb := nr_in (i := 658) (by decide +kernel) (by decide +kernel)
theorem wf_RX6_16 : Cond.fieldLink RX6 16 "NightRoundsModel" "refused" "[I" ∈ nr_tb := nr_in (i := 659) (by decide +kernel) (by decide +kernel)
theorem wf_RX6_19 : Cond.fieldLink RX6 19 "NightRoundsModel" "text" "[I" ∈ nr_tb := nr_in (i := 660) (by decide +kernel) (by decide +kernel)
theorem wf_RX6_107 : Cond.fieldLink RX6 107 "NightRoundsModel" "textLong" "I" ∈ nr_tb := nr_in (i := 661) (by decide +kernel) (by decide +kernel)
theorem wf_RX6_22 : Cond.fieldLink RX6 22 "NightRoundsModel" "endOf" "[I" ∈ nr_tb := nr_in (i := 662) (by decide +kernel) (by decide +kernel)
theorem wf_RX6_25 : Cond.fieldLink RX6 25 "NightRoundsModel" "slashOf" "[I" ∈ nr_tb := nr_in (i := 663) (by decide +kernel) (by decide +kernel)
theorem wf_RX6_123 : Cond.fieldLink RX6 123 "NightRoundsModel" "acts" "I" ∈ nr_tb := nr_in (i := 664) (by decide +kernel) (by decide +kernel)
theorem wf_RX6_126 : Cond.fieldLink RX6 126 "NightRoundsModel" "deepest" "I" ∈ nr_tb := nr_in (i := 665) (by decide +kernel) (by decide +kernel)
theorem wf_RX6_129 : Cond.fieldLink RX6 129 "NightRoundsModel" "roomsIn" "I" ∈ nr_tb := nr_in (i := 666) (by decide +kernel) (by decide +kernel)
theorem wf_RX6_113 : Cond.fieldLink RX6 113 "NightRoundsModel" "place" "I" ∈ nr_tb := nr_in (i := 667) (by decide +kernel) (by decide +kernel)
theorem wf_RX6_28 : Cond.fieldLink RX6 28 "NightRoundsModel" "openAt" "[I" ∈ nr_tb := nr_in (i := 668) (by decide +kernel) (by decide +kernel)
theorem wf_RX6_31 : Cond.fieldLink RX6 31 "NightRoundsModel" "diaryNow" "[I" ∈ nr_tb := nr_in (i := 669) (by decide +kernel) (by decide +kernel)
theorem wf_RX6_142 : Cond.fieldLink RX6 142 "NightRoundsModel" "diaryLong" "I" ∈ nr_tb := nr_in (i := 670) (by decide +kernel) (by decide +kernel)
theorem wf_RX6_192 : Cond.fieldLink RX6 192 "NightRoundsModel" "ticks" "I" ∈ nr_tb := nr_in (i := 671) (by decide +kernel) (by decide +kernel)
theorem wf_RX6_186 : Cond.fieldLink RX6 186 "NightRoundsModel" "openMost" "I" ∈ nr_tb := nr_in (i := 672) (by decide +kernel) (by decide +kernel)
theorem wf_RX6_163 : Cond.fieldLink RX6 163 "NightRoundsModel" "befell" "I" ∈ nr_tb := nr_in (i := 673) (by decide +kernel) (by decide +kernel)
theorem wf_RX6_145 : Cond.fieldLink RX6 145 "NightRoundsModel" "event" "I" ∈ nr_tb := nr_in (i := 674) (by decide +kernel) (by decide +kernel)
theorem wf_RX6_151 : Cond.fieldLink RX6 151 "NightRoundsModel" "eventRoom" "I" ∈ nr_tb := nr_in (i := 675) (by decide +kernel) (by decide +kernel)
theorem wf_RX6_154 : Cond.fieldLink RX6 154 "NightRoundsModel" "eventNumber" "I" ∈ nr_tb := nr_in (i := 676) (by decide +kernel) (by decide +kernel)
theorem wf_RX6_157 : Cond.fieldLink RX6 157 "NightRoundsModel" "eventBehind" "I" ∈ nr_tb := nr_in (i := 677) (by decide +kernel) (by decide +kernel)
theorem wf_RX6_160 : Cond.fieldLink RX6 160 "NightRoundsModel" "eventRoot" "I" ∈ nr_tb := nr_in (i := 678) (by decide +kernel) (by decide +kernel)
theorem wf_RX6_34 : Cond.fieldLink RX6 34 "NightRoundsModel" "pile" "[I" ∈ nr_tb := nr_in (i := 679) (by decide +kernel) (by decide +kernel)
theorem wf_RX6_37 : Cond.fieldLink RX6 37 "NightRoundsModel" "roomAt" "[I" ∈ nr_tb := nr_in (i := 680) (by decide +kernel) (by decide +kernel)
theorem wf_RX6_40 : Cond.fieldLink RX6 40 "NightRoundsModel" "left" "[I" ∈ nr_tb := nr_in (i := 681) (by decide +kernel) (by decide +kernel)
theorem wf_RX6_43 : Cond.fieldLink RX6 43 "NightRoundsModel" "isSecond" "[Z" ∈ nr_tb := nr_in (i := 682) (by decide +kernel) (by decide +kernel)
theorem wf_RX6_166 : Cond.fieldLink RX6 166 "NightRoundsModel" "pileLong" "I" ∈ nr_tb := nr_in (i := 683) (by decide +kernel) (by decide +kernel)
theorem wf_RX6_148 : Cond.fieldLink RX6 148 "NightRoundsModel" "room" "I" ∈ nr_tb := nr_in (i := 684) (by decide +kernel) (by decide +kernel)
theorem wf_RX6_169 : Cond.fieldLink RX6 169 "NightRoundsModel" "openNow" "I" ∈ nr_tb := nr_in (i := 685) (by decide +kernel) (by decide +kernel)
theorem wf_RX6_47 : Cond.fieldLink RX6 47 "NightRoundsModel" "wasNow" "[I" ∈ nr_tb := nr_in (i := 686) (by decide +kernel) (by decide +kernel)
theorem wf_RX6_50 : Cond.fieldLink RX6 50 "NightRoundsModel" "rootNow" "I" ∈ nr_tb := nr_in (i := 687) (by decide +kernel) (by decide +kernel)
theorem wf_RX6_54 : Cond.fieldLink RX6 54 "NightRoundsModel" "diaryWas" "[I" ∈ nr_tb := nr_in (i := 688) (by decide +kernel) (by decide +kernel)
theorem wf_RX6_229 : Cond.fieldLink RX6 229 "NightRoundsModel" "diaryWasLong" "I" ∈ nr_tb := nr_in (i := 689) (by decide +kernel) (by decide +kernel)
theorem wf_RX6_225 : Cond.fieldLink RX6 225 "NightRoundsModel" "isWas" "Z" ∈ nr_tb := nr_in (i := 690) (by decide +kernel) (by decide +kernel)
theorem wf_RX6_57 : Cond.fieldLink RX6 57 "NightRoundsModel" "kept" "[I" ∈ nr_tb := nr_in (i := 691) (by decide +kernel) (by decide +kernel)
theorem wa_boolean : Cond.arrayClass .boolean ∈ nr_tb := nr_in (i := 765) (by decide +kernel) (by decide +kernel)
theorem wm_RL_17 : Cond.methodLink RL 17 yX6_sets ∈ nr_tb := nr_in (i := 766) (by decide +kernel) (by decide +kernel)
theorem wi_yX6_sets : Cond.instanceMethod yX6_sets ∈ nr_tb := nr_in (i := 767) (by decide +kernel) (by decide +kernel)
theorem we_yX6_sets : Cond.selects RX6 yX6_sets yX6_sets ∈ nr_tb := nr_in (i := 768) (by decide +kernel) (by decide +kernel)
theorem wc_yX6_sets : Cond.code yX6_sets cX6_sets 6 (some .int) ∈ nr_tb := nr_in (i := 769) (by decide +kernel) (by decide +kernel)
theorem wm_RX6_76 : Cond.methodLink RX6 76 yX6_isRoom ∈ nr_tb := nr_in (i := 770) (by decide +kernel) (by decide +kernel)
theorem ws_yX6_isRoom : Cond.static yX6_isRoom ∈ nr_tb := nr_in (i := 771) (by decide +kernel) (by decide +kernel)
theorem wc_yX6_isRoom : Cond.code yX6_isRoom cX6_isRoom 1 (some .boolean) ∈ nr_tb := nr_in (i := 772) (by decide +kernel) (by decide +kernel)
theorem wk_RX6_60 : Cond.constantLong RX6 60 7 ∈ nr_tb := nr_in (i := 773) (by decide +kernel) (by decide +kernel)
theorem wm_RX6_62 : Cond.methodLink RX6 62 yX6_in ∈ nr_tb := nr_in (i := 774) (by decide +kernel) (by decide +kernel)
theorem ws_yX6_in : Cond.static yX6_in ∈ nr_tb := nr_in (i := 775) (by decide +kernel) (by decide +kernel)
theorem wc_yX6_in : Cond.code yX6_in cX6_in 6 (some .boolean) ∈ nr_tb := nr_in (i := 776) (by decide +kernel) (by decide +kernel)
theorem wk_RX6_80 : Cond.constantLong RX6 80 3 ∈ nr_tb := nr_in (i := 777) (by decide +kernel) (by decide +kernel)
theorem wm_RX6_82 : Cond.methodLink RX6 82 yX6_bad ∈ nr_tb := nr_in (i := 778) (by decide +kernel) (by decide +kernel)
theorem wi_yX6_bad : Cond.instanceMethod yX6_bad ∈ nr_tb := nr_in (i := 780) (by decide +kernel) (by decide +kernel)
theorem wc_yX6_bad : Cond.code yX6_bad cX6_bad 2 (some .int) ∈ nr_tb := nr_in (i := 781) (by decide +kernel) (by decide +kernel)
theorem wm_RX6_86 : Cond.methodLink RX6 86 yX6_night ∈ nr_tb := nr_in (i := 782) (by decide +kernel) (by decide +kernel)
theorem wi_yX6_night : Cond.instanceMethod yX6_night ∈ nr_tb := nr_in (i := 784) (by decide +kernel) (by decide +kernel)
theorem wc_yX6_night : Cond.code yX6_night cX6_night 2 none ∈ nr_tb := nr_in (i := 785) (by decide +kernel) (by decide +kernel)
theorem wm_RX6_69 : Cond.methodLink RX6 69 yX6_at ∈ nr_tb := nr_in (i := 786) (by decide +kernel) (by decide +kernel)
theorem wi_yX6_at : Cond.instanceMethod yX6_at ∈ nr_tb := nr_in (i := 788) (by decide +kernel) (by decide +kernel)
theorem wc_yX6_at : Cond.code yX6_at cX6_at 3 (some .int) ∈ nr_tb := nr_in (i := 789) (by decide +kernel) (by decide +kernel)
theorem wm_RX6_89 : Cond.methodLink RX6 89 yX6_put ∈ nr_tb := nr_in (i := 790) (by decide +kernel) (by decide +kernel)
theorem wi_yX6_put : Cond.instanceMethod yX6_put ∈ nr_tb := nr_in (i := 792) (by decide +kernel) (by decide +kernel)
theorem wc_yX6_put : Cond.code yX6_put cX6_put 4 none ∈ nr_tb := nr_in (i := 793) (by decide +kernel) (by decide +kernel)
theorem wm_RL_22 : Cond.methodLink RL 22 yX6_of ∈ nr_tb := nr_in (i := 794) (by decide +kernel) (by decide +kernel)
theorem wi_yX6_of : Cond.instanceMethod yX6_of ∈ nr_tb := nr_in (i := 795) (by decide +kernel) (by decide +kernel)
theorem we_yX6_of : Cond.selects RX6 yX6_of yX6_of ∈ nr_tb := nr_in (i := 796) (by decide +kernel) (by decide +kernel)
theorem wc_yX6_of : Cond.code yX6_of cX6_of 3 (some .int) ∈ nr_tb := nr_in (i := 797) (by decide +kernel) (by decide +kernel)
theorem wm_RX6_96 : Cond.methodLink RX6 96 yX6_toldOf ∈ nr_tb := nr_in (i := 798) (by decide +kernel) (by decide +kernel)
theorem wi_yX6_toldOf : Cond.instanceMethod yX6_toldOf ∈ nr_tb := nr_in (i := 800) (by decide +kernel) (by decide +kernel)
theorem wc_yX6_toldOf : Cond.code yX6_toldOf cX6_toldOf 3 (some .int) ∈ nr_tb := nr_in (i := 801) (by decide +kernel) (by decide +kernel)
theorem wm_RX6_93 : Cond.methodLink RX6 93 yX6_loud ∈ nr_tb := nr_in (i := 802) (by decide +kernel) (by decide +kernel)
theorem wi_yX6_loud : Cond.instanceMethod yX6_loud ∈ nr_tb := nr_in (i := 804) (by decide +kernel) (by decide +kernel)
theorem wc_yX6_loud : Cond.code yX6_loud cX6_loud 2 (some .int) ∈ nr_tb := nr_in (i := 805) (by decide +kernel) (by decide +kernel)
theorem wm_RX6_73 : Cond.methodLink RX6 73 yX6_loudAs ∈ nr_tb := nr_in (i := 806) (by decide +kernel) (by decide +kernel)
theorem ws_yX6_loudAs : Cond.static yX6_loudAs ∈ nr_tb := nr_in (i := 807) (by decide +kernel) (by decide +kernel)
theorem wc_yX6_loudAs : Cond.code yX6_loudAs cX6_loudAs 4 (some .int) ∈ nr_tb := nr_in (i := 808) (by decide +kernel) (by decide +kernel)
theorem wm_RL_27 : Cond.methodLink RL 27 yX6_keys ∈ nr_tb := nr_in (i := 809) (by decide +kernel) (by decide +kernel)
theorem wi_yX6_keys : Cond.instanceMethod yX6_keys ∈ nr_tb := nr_in (i := 810) (by decide +kernel) (by decide +kernel)
theorem we_yX6_keys : Cond.selects RX6 yX6_keys yX6_keys ∈ nr_tb := nr_in (i := 811) (by decide +kernel) (by decide +kernel)
theorem wc_yX6_keys : Cond.code yX6_keys cX6_keys 3 (some .int) ∈ nr_tb := nr_in (i := 812) (by decide +kernel) (by decide +kernel)
theorem wk_RX6_99 : Cond.constantLong RX6 99 14 ∈ nr_tb := nr_in (i := 813) (by decide +kernel) (by decide +kernel)
theorem wm_RL_32 : Cond.methodLink RL 32 yX6_dusk ∈ nr_tb := nr_in (i := 814) (by decide +kernel) (by decide +kernel)
theorem wi_yX6_dusk : Cond.instanceMethod yX6_dusk ∈ nr_tb := nr_in (i := 815) (by decide +kernel) (by decide +kernel)
theorem we_yX6_dusk : Cond.selects RX6 yX6_dusk yX6_dusk ∈ nr_tb := nr_in (i := 816) (by decide +kernel) (by decide +kernel)
theorem wc_yX6_dusk : Cond.code yX6_dusk cX6_dusk 3 (some .int) ∈ nr_tb := nr_in (i := 817) (by decide +kernel) (by decide +kernel)
theorem wm_RX6_101 : Cond.methodLink RX6 101 yX6_awake ∈ nr_tb := nr_in (i := 818) (by decide +kernel) (by decide +kernel)
theorem wi_yX6_awake : Cond.instanceMethod yX6_awake ∈ nr_tb := nr_in (i := 820) (by decide +kernel) (by decide +kernel)
theorem wc_yX6_awake : Cond.code yX6_awake cX6_awake 3 (some .int) ∈ nr_tb := nr_in (i := 821) (by decide +kernel) (by decide +kernel)
theorem wm_RL_36 : Cond.methodLink RL 36 yX6_type ∈ nr_tb := nr_in (i := 822) (by decide +kernel) (by decide +kernel)
theorem wi_yX6_type : Cond.instanceMethod yX6_type ∈ nr_tb := nr_in (i := 823) (by decide +kernel) (by decide +kernel)
theorem we_yX6_type : Cond.selects RX6 yX6_type yX6_type ∈ nr_tb := nr_in (i := 824) (by decide +kernel) (by decide +kernel)
theorem wc_yX6_type : Cond.code yX6_type cX6_type 2 (some .int) ∈ nr_tb := nr_in (i := 825) (by decide +kernel) (by decide +kernel)
theorem wk_RX6_105 : Cond.constantLong RX6 105 127 ∈ nr_tb := nr_in (i := 826) (by decide +kernel) (by decide +kernel)
theorem wm_RX6_110 : Cond.methodLink RX6 110 yX6_full ∈ nr_tb := nr_in (i := 827) (by decide +kernel) (by decide +kernel)
theorem wi_yX6_full : Cond.instanceMethod yX6_full ∈ nr_tb := nr_in (i := 829) (by decide +kernel) (by decide +kernel)
theorem wc_yX6_full : Cond.code yX6_full cX6_full 1 (some .int) ∈ nr_tb := nr_in (i := 830) (by decide +kernel) (by decide +kernel)
theorem wm_RL_40 : Cond.methodLink RL 40 yX6_clear ∈ nr_tb := nr_in (i := 831) (by decide +kernel) (by decide +kernel)
theorem wi_yX6_clear : Cond.instanceMethod yX6_clear ∈ nr_tb := nr_in (i := 832) (by decide +kernel) (by decide +kernel)
theorem we_yX6_clear : Cond.selects RX6 yX6_clear yX6_clear ∈ nr_tb := nr_in (i := 833) (by decide +kernel) (by decide +kernel)
theorem wc_yX6_clear : Cond.code yX6_clear cX6_clear 2 (some .int) ∈ nr_tb := nr_in (i := 834) (by decide +kernel) (by decide +kernel)
theorem wm_RL_44 : Cond.methodLink RL 44 yX6_goes ∈ nr_tb := nr_in (i := 835) (by decide +kernel) (by decide +kernel)
theorem wi_yX6_goes : Cond.instanceMethod yX6_goes ∈ nr_tb := nr_in (i := 836) (by decide +kernel) (by decide +kernel)
theorem we_yX6_goes : Cond.selects RX6 yX6_goes yX6_goes ∈ nr_tb := nr_in (i := 837) (by decide +kernel) (by decide +kernel)
theorem wc_yX6_goes : Cond.code yX6_goes cX6_goes 3 (some .int) ∈ nr_tb := nr_in (i := 838) (by decide +kernel) (by decide +kernel)
theorem wm_RX6_232 : Cond.methodLink RX6 232 yX6_reads ∈ nr_tb := nr_in (i := 839) (by decide +kernel) (by decide +kernel)
theorem wi_yX6_reads : Cond.instanceMethod yX6_reads ∈ nr_tb := nr_in (i := 841) (by decide +kernel) (by decide +kernel)
theorem wc_yX6_reads : Cond.code yX6_reads cX6_reads 6 (some .int) ∈ nr_tb := nr_in (i := 842) (by decide +kernel) (by decide +kernel)
theorem wm_RX6_116 : Cond.methodLink RX6 116 yX6_skip ∈ nr_tb := nr_in (i := 843) (by decide +kernel) (by decide +kernel)
theorem wi_yX6_skip : Cond.instanceMethod yX6_skip ∈ nr_tb := nr_in (i := 845) (by decide +kernel) (by decide +kernel)
theorem wc_yX6_skip : Cond.code yX6_skip cX6_skip 1 none ∈ nr_tb := nr_in (i := 846) (by decide +kernel) (by decide +kernel)
theorem wm_RX6_132 : Cond.methodLink RX6 132 yX6_opens ∈ nr_tb := nr_in (i := 847) (by decide +kernel) (by decide +kernel)
theorem ws_yX6_opens : Cond.static yX6_opens ∈ nr_tb := nr_in (i := 848) (by decide +kernel) (by decide +kernel)
theorem wc_yX6_opens : Cond.code yX6_opens cX6_opens 1 (some .boolean) ∈ nr_tb := nr_in (i := 849) (by decide +kernel) (by decide +kernel)
theorem wk_RX6_119 : Cond.constantLong RX6 119 48 ∈ nr_tb := nr_in (i := 850) (by decide +kernel) (by decide +kernel)
theorem wk_RX6_121 : Cond.constantLong RX6 121 55 ∈ nr_tb := nr_in (i := 851) (by decide +kernel) (by decide +kernel)
theorem wm_RX6_135 : Cond.methodLink RX6 135 yX6_meets ∈ nr_tb := nr_in (i := 852) (by decide +kernel) (by decide +kernel)
theorem wi_yX6_meets : Cond.instanceMethod yX6_meets ∈ nr_tb := nr_in (i := 854) (by decide +kernel) (by decide +kernel)
theorem wc_yX6_meets : Cond.code yX6_meets cX6_meets 4 (some .boolean) ∈ nr_tb := nr_in (i := 855) (by decide +kernel) (by decide +kernel)
theorem wm_RX6_139 : Cond.methodLink RX6 139 yX6_endsBy ∈ nr_tb := nr_in (i := 856) (by decide +kernel) (by decide +kernel)
theorem ws_yX6_endsBy : Cond.static yX6_endsBy ∈ nr_tb := nr_in (i := 857) (by decide +kernel) (by decide +kernel)
theorem wc_yX6_endsBy : Cond.code yX6_endsBy cX6_endsBy 1 (some .int) ∈ nr_tb := nr_in (i := 858) (by decide +kernel) (by decide +kernel)
theorem wm_RX6_235 : Cond.methodLink RX6 235 yX6_round ∈ nr_tb := nr_in (i := 859) (by decide +kernel) (by decide +kernel)
theorem wi_yX6_round : Cond.instanceMethod yX6_round ∈ nr_tb := nr_in (i := 861) (by decide +kernel) (by decide +kernel)
theorem wc_yX6_round : Cond.code yX6_round cX6_round 2 (some .int) ∈ nr_tb := nr_in (i := 862) (by decide +kernel) (by decide +kernel)
theorem wm_RX6_216 : Cond.methodLink RX6 216 yX6_goesDown ∈ nr_tb := nr_in (i := 863) (by decide +kernel) (by decide +kernel)
theorem wi_yX6_goesDown : Cond.instanceMethod yX6_goesDown ∈ nr_tb := nr_in (i := 865) (by decide +kernel) (by decide +kernel)
theorem wc_yX6_goesDown : Cond.code yX6_goesDown cX6_goesDown 5 none ∈ nr_tb := nr_in (i := 866) (by decide +kernel) (by decide +kernel)
theorem wm_RX6_213 : Cond.methodLink RX6 213 yX6_pops ∈ nr_tb := nr_in (i := 867) (by decide +kernel) (by decide +kernel)
theorem wi_yX6_pops : Cond.instanceMethod yX6_pops ∈ nr_tb := nr_in (i := 869) (by decide +kernel) (by decide +kernel)
theorem wc_yX6_pops : Cond.code yX6_pops cX6_pops 2 none ∈ nr_tb := nr_in (i := 870) (by decide +kernel) (by decide +kernel)
theorem wm_RX6_179 : Cond.methodLink RX6 179 yX6_shuts ∈ nr_tb := nr_in (i := 871) (by decide +kernel) (by decide +kernel)
theorem wi_yX6_shuts : Cond.instanceMethod yX6_shuts ∈ nr_tb := nr_in (i := 873) (by decide +kernel) (by decide +kernel)
theorem wc_yX6_shuts : Cond.code yX6_shuts cX6_shuts 2 none ∈ nr_tb := nr_in (i := 874) (by decide +kernel) (by decide +kernel)
theorem wm_RX6_172 : Cond.methodLink RX6 172 yX6_notes ∈ nr_tb := nr_in (i := 875) (by decide +kernel) (by decide +kernel)
theorem wi_yX6_notes : Cond.instanceMethod yX6_notes ∈ nr_tb := nr_in (i := 877) (by decide +kernel) (by decide +kernel)
theorem wc_yX6_notes : Cond.code yX6_notes cX6_notes 2 none ∈ nr_tb := nr_in (i := 878) (by decide +kernel) (by decide +kernel)
theorem wm_RX6_176 : Cond.methodLink RX6 176 yX6_isAsleep ∈ nr_tb := nr_in (i := 879) (by decide +kernel) (by decide +kernel)
theorem wi_yX6_isAsleep : Cond.instanceMethod yX6_isAsleep ∈ nr_tb := nr_in (i := 881) (by decide +kernel) (by decide +kernel)
theorem wc_yX6_isAsleep : Cond.code yX6_isAsleep cX6_isAsleep 2 (some .boolean) ∈ nr_tb := nr_in (i := 882) (by decide +kernel) (by decide +kernel)
theorem wm_RX6_219 : Cond.methodLink RX6 219 yX6_endsAt ∈ nr_tb := nr_in (i := 883) (by decide +kernel) (by decide +kernel)
theorem wi_yX6_endsAt : Cond.instanceMethod yX6_endsAt ∈ nr_tb := nr_in (i := 885) (by decide +kernel) (by decide +kernel)
theorem wc_yX6_endsAt : Cond.code yX6_endsAt cX6_endsAt 3 none ∈ nr_tb := nr_in (i := 886) (by decide +kernel) (by decide +kernel)
theorem wm_RX6_195 : Cond.methodLink RX6 195 yX6_behindByte ∈ nr_tb := nr_in (i := 887) (by decide +kernel) (by decide +kernel)
theorem wi_yX6_behindByte : Cond.instanceMethod yX6_behindByte ∈ nr_tb := nr_in (i := 889) (by decide +kernel) (by decide +kernel)
theorem wc_yX6_behindByte : Cond.code yX6_behindByte cX6_behindByte 2 none ∈ nr_tb := nr_in (i := 890) (by decide +kernel) (by decide +kernel)
theorem wm_RX6_222 : Cond.methodLink RX6 222 yX6_begins ∈ nr_tb := nr_in (i := 891) (by decide +kernel) (by decide +kernel)
theorem wi_yX6_begins : Cond.instanceMethod yX6_begins ∈ nr_tb := nr_in (i := 893) (by decide +kernel) (by decide +kernel)
theorem wc_yX6_begins : Cond.code yX6_begins cX6_begins 4 none ∈ nr_tb := nr_in (i := 894) (by decide +kernel) (by decide +kernel)
theorem wm_RX6_182 : Cond.methodLink RX6 182 yX6_befalls ∈ nr_tb := nr_in (i := 895) (by decide +kernel) (by decide +kernel)
theorem wi_yX6_befalls : Cond.instanceMethod yX6_befalls ∈ nr_tb := nr_in (i := 897) (by decide +kernel) (by decide +kernel)
theorem wc_yX6_befalls : Cond.code yX6_befalls cX6_befalls 3 none ∈ nr_tb := nr_in (i := 898) (by decide +kernel) (by decide +kernel)
theorem wm_RX6_198 : Cond.methodLink RX6 198 yX6_goesIn ∈ nr_tb := nr_in (i := 899) (by decide +kernel) (by decide +kernel)
theorem wi_yX6_goesIn : Cond.instanceMethod yX6_goesIn ∈ nr_tb := nr_in (i := 901) (by decide +kernel) (by decide +kernel)
theorem wc_yX6_goesIn : Cond.code yX6_goesIn cX6_goesIn 4 none ∈ nr_tb := nr_in (i := 902) (by decide +kernel) (by decide +kernel)
theorem wm_RX6_189 : Cond.methodLink RX6 189 yX6_pushes ∈ nr_tb := nr_in (i := 903) (by decide +kernel) (by decide +kernel)
theorem wi_yX6_pushes : Cond.instanceMethod yX6_pushes ∈ nr_tb := nr_in (i := 905) (by decide +kernel) (by decide +kernel)
theorem wc_yX6_pushes : Cond.code yX6_pushes cX6_pushes 4 none ∈ nr_tb := nr_in (i := 906) (by decide +kernel) (by decide +kernel)
theorem wm_RX6_201 : Cond.methodLink RX6 201 yX6_figureFrom ∈ nr_tb := nr_in (i := 907) (by decide +kernel) (by decide +kernel)
theorem wi_yX6_figureFrom : Cond.instanceMethod yX6_figureFrom ∈ nr_tb := nr_in (i := 909) (by decide +kernel) (by decide +kernel)
theorem wc_yX6_figureFrom : Cond.code yX6_figureFrom cX6_figureFrom 3 (some .int) ∈ nr_tb := nr_in (i := 910) (by decide +kernel) (by decide +kernel)
theorem wm_RX6_204 : Cond.methodLink RX6 204 yX6_takesKey ∈ nr_tb := nr_in (i := 911) (by decide +kernel) (by decide +kernel)
theorem wi_yX6_takesKey : Cond.instanceMethod yX6_takesKey ∈ nr_tb := nr_in (i := 913) (by decide +kernel) (by decide +kernel)
theorem wc_yX6_takesKey : Cond.code yX6_takesKey cX6_takesKey 2 none ∈ nr_tb := nr_in (i := 914) (by decide +kernel) (by decide +kernel)
theorem wm_RX6_207 : Cond.methodLink RX6 207 yX6_wakes ∈ nr_tb := nr_in (i := 915) (by decide +kernel) (by decide +kernel)
theorem wi_yX6_wakes : Cond.instanceMethod yX6_wakes ∈ nr_tb := nr_in (i := 917) (by decide +kernel) (by decide +kernel)
theorem wc_yX6_wakes : Cond.code yX6_wakes cX6_wakes 1 none ∈ nr_tb := nr_in (i := 918) (by decide +kernel) (by decide +kernel)
theorem wm_RX6_210 : Cond.methodLink RX6 210 yX6_looksIn ∈ nr_tb := nr_in (i := 919) (by decide +kernel) (by decide +kernel)
theorem wi_yX6_looksIn : Cond.instanceMethod yX6_looksIn ∈ nr_tb := nr_in (i := 921) (by decide +kernel) (by decide +kernel)
theorem wc_yX6_looksIn : Cond.code yX6_looksIn cX6_looksIn 1 none ∈ nr_tb := nr_in (i := 922) (by decide +kernel) (by decide +kernel)
theorem wm_RX6_238 : Cond.methodLink RX6 238 yX6_keepsWas ∈ nr_tb := nr_in (i := 923) (by decide +kernel) (by decide +kernel)
theorem wi_yX6_keepsWas : Cond.instanceMethod yX6_keepsWas ∈ nr_tb := nr_in (i := 925) (by decide +kernel) (by decide +kernel)
theorem wc_yX6_keepsWas : Cond.code yX6_keepsWas cX6_keepsWas 3 none ∈ nr_tb := nr_in (i := 926) (by decide +kernel) (by decide +kernel)
theorem wm_RL_48 : Cond.methodLink RL 48 yX6_tries ∈ nr_tb := nr_in (i := 927) (by decide +kernel) (by decide +kernel)
theorem wi_yX6_tries : Cond.instanceMethod yX6_tries ∈ nr_tb := nr_in (i := 928) (by decide +kernel) (by decide +kernel)
theorem we_yX6_tries : Cond.selects RX6 yX6_tries yX6_tries ∈ nr_tb := nr_in (i := 929) (by decide +kernel) (by decide +kernel)
theorem wc_yX6_tries : Cond.code yX6_tries cX6_tries 3 (some .int) ∈ nr_tb := nr_in (i := 930) (by decide +kernel) (by decide +kernel)
theorem wm_RX6_241 : Cond.methodLink RX6 241 yX6_keep ∈ nr_tb := nr_in (i := 931) (by decide +kernel) (by decide +kernel)
theorem wi_yX6_keep : Cond.instanceMethod yX6_keep ∈ nr_tb := nr_in (i := 933) (by decide +kernel) (by decide +kernel)
theorem wc_yX6_keep : Cond.code yX6_keep cX6_keep 2 none ∈ nr_tb := nr_in (i := 934) (by decide +kernel) (by decide +kernel)
theorem wm_RX6_244 : Cond.methodLink RX6 244 yX6_bring ∈ nr_tb := nr_in (i := 935) (by decide +kernel) (by decide +kernel)
theorem wi_yX6_bring : Cond.instanceMethod yX6_bring ∈ nr_tb := nr_in (i := 937) (by decide +kernel) (by decide +kernel)
theorem wc_yX6_bring : Cond.code yX6_bring cX6_bring 2 none ∈ nr_tb := nr_in (i := 938) (by decide +kernel) (by decide +kernel)
theorem wm_RL_52 : Cond.methodLink RL 52 yX6_often ∈ nr_tb := nr_in (i := 939) (by decide +kernel) (by decide +kernel)
theorem wi_yX6_often : Cond.instanceMethod yX6_often ∈ nr_tb := nr_in (i := 940) (by decide +kernel) (by decide +kernel)
theorem we_yX6_often : Cond.selects RX6 yX6_often yX6_often ∈ nr_tb := nr_in (i := 941) (by decide +kernel) (by decide +kernel)
theorem wc_yX6_often : Cond.code yX6_often cX6_often 6 (some .int) ∈ nr_tb := nr_in (i := 942) (by decide +kernel) (by decide +kernel)
theorem wm_RL_56 : Cond.methodLink RL 56 yX6_was ∈ nr_tb := nr_in (i := 943) (by decide +kernel) (by decide +kernel)
theorem wi_yX6_was : Cond.instanceMethod yX6_was ∈ nr_tb := nr_in (i := 944) (by decide +kernel) (by decide +kernel)
theorem we_yX6_was : Cond.selects RX6 yX6_was yX6_was ∈ nr_tb := nr_in (i := 945) (by decide +kernel) (by decide +kernel)
theorem wc_yX6_was : Cond.code yX6_was cX6_was 2 (some .int) ∈ nr_tb := nr_in (i := 946) (by decide +kernel) (by decide +kernel)
theorem wm_RX6_247 : Cond.methodLink RX6 247 yX6_toldWas ∈ nr_tb := nr_in (i := 947) (by decide +kernel) (by decide +kernel)
theorem wi_yX6_toldWas : Cond.instanceMethod yX6_toldWas ∈ nr_tb := nr_in (i := 949) (by decide +kernel) (by decide +kernel)
theorem wc_yX6_toldWas : Cond.code yX6_toldWas cX6_toldWas 2 (some .int) ∈ nr_tb := nr_in (i := 950) (by decide +kernel) (by decide +kernel)
theorem wm_RL_60 : Cond.methodLink RL 60 yX6_root ∈ nr_tb := nr_in (i := 951) (by decide +kernel) (by decide +kernel)
theorem wi_yX6_root : Cond.instanceMethod yX6_root ∈ nr_tb := nr_in (i := 952) (by decide +kernel) (by decide +kernel)
theorem we_yX6_root : Cond.selects RX6 yX6_root yX6_root ∈ nr_tb := nr_in (i := 953) (by decide +kernel) (by decide +kernel)
theorem wc_yX6_root : Cond.code yX6_root cX6_root 1 (some .int) ∈ nr_tb := nr_in (i := 954) (by decide +kernel) (by decide +kernel)
theorem wm_RL_64 : Cond.methodLink RL 64 yX6_diary ∈ nr_tb := nr_in (i := 955) (by decide +kernel) (by decide +kernel)
theorem wi_yX6_diary : Cond.instanceMethod yX6_diary ∈ nr_tb := nr_in (i := 956) (by decide +kernel) (by decide +kernel)
theorem we_yX6_diary : Cond.selects RX6 yX6_diary yX6_diary ∈ nr_tb := nr_in (i := 957) (by decide +kernel) (by decide +kernel)
theorem wc_yX6_diary : Cond.code yX6_diary cX6_diary 2 (some .int) ∈ nr_tb := nr_in (i := 958) (by decide +kernel) (by decide +kernel)
theorem wm_RL_68 : Cond.methodLink RL 68 yX6_open ∈ nr_tb := nr_in (i := 959) (by decide +kernel) (by decide +kernel)
theorem wi_yX6_open : Cond.instanceMethod yX6_open ∈ nr_tb := nr_in (i := 960) (by decide +kernel) (by decide +kernel)
theorem we_yX6_open : Cond.selects RX6 yX6_open yX6_open ∈ nr_tb := nr_in (i := 961) (by decide +kernel) (by decide +kernel)
theorem wc_yX6_open : Cond.code yX6_open cX6_open 1 (some .int) ∈ nr_tb := nr_in (i := 962) (by decide +kernel) (by decide +kernel)
theorem wm_RL_72 : Cond.methodLink RL 72 yX6_fewest ∈ nr_tb := nr_in (i := 963) (by decide +kernel) (by decide +kernel)
theorem wi_yX6_fewest : Cond.instanceMethod yX6_fewest ∈ nr_tb := nr_in (i := 964) (by decide +kernel) (by decide +kernel)
theorem we_yX6_fewest : Cond.selects RX6 yX6_fewest yX6_fewest ∈ nr_tb := nr_in (i := 965) (by decide +kernel) (by decide +kernel)
theorem wc_yX6_fewest : Cond.code yX6_fewest cX6_fewest 5 (some .int) ∈ nr_tb := nr_in (i := 966) (by decide +kernel) (by decide +kernel)
theorem wm_RX6_250 : Cond.methodLink RX6 250 yX6_bits ∈ nr_tb := nr_in (i := 967) (by decide +kernel) (by decide +kernel)
theorem ws_yX6_bits : Cond.static yX6_bits ∈ nr_tb := nr_in (i := 968) (by decide +kernel) (by decide +kernel)
theorem wc_yX6_bits : Cond.code yX6_bits cX6_bits 3 (some .int) ∈ nr_tb := nr_in (i := 969) (by decide +kernel) (by decide +kernel)
theorem wm_RX6_253 : Cond.methodLink RX6 253 yX6_endBy ∈ nr_tb := nr_in (i := 970) (by decide +kernel) (by decide +kernel)
theorem wi_yX6_endBy : Cond.instanceMethod yX6_endBy ∈ nr_tb := nr_in (i := 972) (by decide +kernel) (by decide +kernel)
theorem wc_yX6_endBy : Cond.code yX6_endBy cX6_endBy 3 (some .int) ∈ nr_tb := nr_in (i := 973) (by decide +kernel) (by decide +kernel)
theorem wm_RL_76 : Cond.methodLink RL 76 yX6_were ∈ nr_tb := nr_in (i := 974) (by decide +kernel) (by decide +kernel)
theorem wi_yX6_were : Cond.instanceMethod yX6_were ∈ nr_tb := nr_in (i := 975) (by decide +kernel) (by decide +kernel)
theorem we_yX6_were : Cond.selects RX6 yX6_were yX6_were ∈ nr_tb := nr_in (i := 976) (by decide +kernel) (by decide +kernel)
theorem wc_yX6_were : Cond.code yX6_were cX6_were 5 (some .int) ∈ nr_tb := nr_in (i := 977) (by decide +kernel) (by decide +kernel)
theorem wk_RX6_256 : Cond.constantLong RX6 256 4 ∈ nr_tb := nr_in (i := 978) (by decide +kernel) (by decide +kernel)
theorem wm_RL_80 : Cond.methodLink RL 80 yX6_cures ∈ nr_tb := nr_in (i := 979) (by decide +kernel) (by decide +kernel)
theorem wi_yX6_cures : Cond.instanceMethod yX6_cures ∈ nr_tb := nr_in (i := 980) (by decide +kernel) (by decide +kernel)
theorem we_yX6_cures : Cond.selects RX6 yX6_cures yX6_cures ∈ nr_tb := nr_in (i := 981) (by decide +kernel) (by decide +kernel)
theorem wc_yX6_cures : Cond.code yX6_cures cX6_cures 5 (some .int) ∈ nr_tb := nr_in (i := 982) (by decide +kernel) (by decide +kernel)
theorem wk_RX6_258 : Cond.constantLong RX6 258 2 ∈ nr_tb := nr_in (i := 983) (by decide +kernel) (by decide +kernel)
theorem wm_RL_84 : Cond.methodLink RL 84 yX6_ends ∈ nr_tb := nr_in (i := 984) (by decide +kernel) (by decide +kernel)
theorem wi_yX6_ends : Cond.instanceMethod yX6_ends ∈ nr_tb := nr_in (i := 985) (by decide +kernel) (by decide +kernel)
theorem we_yX6_ends : Cond.selects RX6 yX6_ends yX6_ends ∈ nr_tb := nr_in (i := 986) (by decide +kernel) (by decide +kernel)
theorem wc_yX6_ends : Cond.code yX6_ends cX6_ends 5 (some .int) ∈ nr_tb := nr_in (i := 987) (by decide +kernel) (by decide +kernel)
theorem wk_RX6_260 : Cond.constantLong RX6 260 6 ∈ nr_tb := nr_in (i := 988) (by decide +kernel) (by decide +kernel)
theorem wm_RL_88 : Cond.methodLink RL 88 yX6_told ∈ nr_tb := nr_in (i := 989) (by decide +kernel) (by decide +kernel)
theorem wi_yX6_told : Cond.instanceMethod yX6_told ∈ nr_tb := nr_in (i := 990) (by decide +kernel) (by decide +kernel)
theorem we_yX6_told : Cond.selects RX6 yX6_told yX6_told ∈ nr_tb := nr_in (i := 991) (by decide +kernel) (by decide +kernel)
theorem wc_yX6_told : Cond.code yX6_told cX6_told 3 (some .int) ∈ nr_tb := nr_in (i := 992) (by decide +kernel) (by decide +kernel)
theorem wm_RL_92 : Cond.methodLink RL 92 yX6_draw ∈ nr_tb := nr_in (i := 993) (by decide +kernel) (by decide +kernel)
theorem wi_yX6_draw : Cond.instanceMethod yX6_draw ∈ nr_tb := nr_in (i := 994) (by decide +kernel) (by decide +kernel)
theorem we_yX6_draw : Cond.selects RX6 yX6_draw yX6_draw ∈ nr_tb := nr_in (i := 995) (by decide +kernel) (by decide +kernel)
theorem wc_yX6_draw : Cond.code yX6_draw cX6_draw 5 (some .int) ∈ nr_tb := nr_in (i := 996) (by decide +kernel) (by decide +kernel)
theorem wk_RX6_262 : Cond.constantLong RX6 262 999999 ∈ nr_tb := nr_in (i := 997) (by decide +kernel) (by decide +kernel)
theorem wk_RX6_264 : Cond.constantLong RX6 264 1103515245 ∈ nr_tb := nr_in (i := 998) (by decide +kernel) (by decide +kernel)
theorem wk_RX6_266 : Cond.constantLong RX6 266 12345 ∈ nr_tb := nr_in (i := 999) (by decide +kernel) (by decide +kernel)
theorem wk_RX6_268 : Cond.constantLong RX6 268 2147483648 ∈ nr_tb := nr_in (i := 1000) (by decide +kernel) (by decide +kernel)
theorem wk_RX6_270 : Cond.constantLong RX6 270 65536 ∈ nr_tb := nr_in (i := 1001) (by decide +kernel) (by decide +kernel)
theorem wk_RX6_272 : Cond.constantLong RX6 272 5 ∈ nr_tb := nr_in (i := 1002) (by decide +kernel) (by decide +kernel)
theorem wk_RX6_274 : Cond.constantLong RX6 274 1024 ∈ nr_tb := nr_in (i := 1003) (by decide +kernel) (by decide +kernel)
theorem wk_RX6_276 : Cond.constantLong RX6 276 8 ∈ nr_tb := nr_in (i := 1004) (by decide +kernel) (by decide +kernel)
theorem wm_RX6_278 : Cond.methodLink RX6 278 yX6_atMost3 ∈ nr_tb := nr_in (i := 1005) (by decide +kernel) (by decide +kernel)
theorem ws_yX6_atMost3 : Cond.static yX6_atMost3 ∈ nr_tb := nr_in (i := 1006) (by decide +kernel) (by decide +kernel)
theorem wc_yX6_atMost3 : Cond.code yX6_atMost3 cX6_atMost3 2 (some .int) ∈ nr_tb := nr_in (i := 1007) (by decide +kernel) (by decide +kernel)
theorem wk_RX6_282 : Cond.constantLong RX6 282 4096 ∈ nr_tb := nr_in (i := 1008) (by decide +kernel) (by decide +kernel)
theorem wk_RX6_284 : Cond.constantLong RX6 284 16384 ∈ nr_tb := nr_in (i := 1009) (by decide +kernel) (by decide +kernel)
theorem wk_RX6_286 : Cond.constantLong RX6 286 10 ∈ nr_tb := nr_in (i := 1010) (by decide +kernel) (by decide +kernel)
theorem wm_RL_96 : Cond.methodLink RL 96 yX6_back ∈ nr_tb := nr_in (i := 1011) (by decide +kernel) (by decide +kernel)
theorem wi_yX6_back : Cond.instanceMethod yX6_back ∈ nr_tb := nr_in (i := 1012) (by decide +kernel) (by decide +kernel)
theorem we_yX6_back : Cond.selects RX6 yX6_back yX6_back ∈ nr_tb := nr_in (i := 1013) (by decide +kernel) (by decide +kernel)
theorem wc_yX6_back : Cond.code yX6_back cX6_back 2 (some .int) ∈ nr_tb := nr_in (i := 1014) (by decide +kernel) (by decide +kernel)
theorem wm_RX6_288 : Cond.methodLink RX6 288 yX6_no ∈ nr_tb := nr_in (i := 1015) (by decide +kernel) (by decide +kernel)
theorem wi_yX6_no : Cond.instanceMethod yX6_no ∈ nr_tb := nr_in (i := 1017) (by decide +kernel) (by decide +kernel)
theorem wc_yX6_no : Cond.code yX6_no cX6_no 1 (some .int) ∈ nr_tb := nr_in (i := 1018) (by decide +kernel) (by decide +kernel)
theorem wm_RL_100 : Cond.methodLink RL 100 yX6_count ∈ nr_tb := nr_in (i := 1019) (by decide +kernel) (by decide +kernel)
theorem wi_yX6_count : Cond.instanceMethod yX6_count ∈ nr_tb := nr_in (i := 1020) (by decide +kernel) (by decide +kernel)
theorem we_yX6_count : Cond.selects RX6 yX6_count yX6_count ∈ nr_tb := nr_in (i := 1021) (by decide +kernel) (by decide +kernel)
theorem wc_yX6_count : Cond.code yX6_count cX6_count 2 (some .int) ∈ nr_tb := nr_in (i := 1022) (by decide +kernel) (by decide +kernel)
theorem wm_RX6_294 : Cond.methodLink RX6 294 yX6_counted ∈ nr_tb := nr_in (i := 1023) (by decide +kernel) (by decide +kernel)
theorem wi_yX6_counted : Cond.instanceMethod yX6_counted ∈ nr_tb := nr_in (i := 1025) (by decide +kernel) (by decide +kernel)
theorem wc_yX6_counted : Cond.code yX6_counted cX6_counted 2 (some .int) ∈ nr_tb := nr_in (i := 1026) (by decide +kernel) (by decide +kernel)
theorem wm_RX6_291 : Cond.methodLink RX6 291 yX6_lamps ∈ nr_tb := nr_in (i := 1027) (by decide +kernel) (by decide +kernel)
theorem wi_yX6_lamps : Cond.instanceMethod yX6_lamps ∈ nr_tb := nr_in (i := 1029) (by decide +kernel) (by decide +kernel)
theorem wc_yX6_lamps : Cond.code yX6_lamps cX6_lamps 3 (some .int) ∈ nr_tb := nr_in (i := 1030) (by decide +kernel) (by decide +kernel)
theorem wm_RL_105 : Cond.methodLink RL 105 yX6_digest ∈ nr_tb := nr_in (i := 1031) (by decide +kernel) (by decide +kernel)
theorem wi_yX6_digest : Cond.instanceMethod yX6_digest ∈ nr_tb := nr_in (i := 1032) (by decide +kernel) (by decide +kernel)
theorem we_yX6_digest : Cond.selects RX6 yX6_digest yX6_digest ∈ nr_tb := nr_in (i := 1033) (by decide +kernel) (by decide +kernel)
theorem wc_yX6_digest : Cond.code yX6_digest cX6_digest 5 (some .long) ∈ nr_tb := nr_in (i := 1034) (by decide +kernel) (by decide +kernel)
theorem wk_RX6_297 : Cond.constantLong RX6 297 1973 ∈ nr_tb := nr_in (i := 1035) (by decide +kernel) (by decide +kernel)
theorem wk_RX6_299 : Cond.constantLong RX6 299 31 ∈ nr_tb := nr_in (i := 1036) (by decide +kernel) (by decide +kernel)
theorem we_yX5_refuse : Cond.selects RX5 yX5_refuse yX5_refuse ∈ nr_tb := nr_in (i := 0) (by decide +kernel) (by decide +kernel)
theorem we_yX0_setCell : Cond.selects RX0 yX0_setCell yX0_setCell ∈ nr_tb := nr_in (i := 1) (by decide +kernel) (by decide +kernel)
theorem we_yX3_readActs : Cond.selects RX3 yX3_readActs yX3_readActs ∈ nr_tb := nr_in (i := 2) (by decide +kernel) (by decide +kernel)
theorem we_yX3_nextSign : Cond.selects RX3 yX3_nextSign yX3_nextSign ∈ nr_tb := nr_in (i := 3) (by decide +kernel) (by decide +kernel)
theorem we_yX3_readAct : Cond.selects RX3 yX3_readAct yX3_readAct ∈ nr_tb := nr_in (i := 4) (by decide +kernel) (by decide +kernel)
theorem we_yX3_readRest : Cond.selects RX3 yX3_readRest yX3_readRest ∈ nr_tb := nr_in (i := 5) (by decide +kernel) (by decide +kernel)
theorem we_yX3_readFigure : Cond.selects RX3 yX3_readFigure yX3_readFigure ∈ nr_tb := nr_in (i := 6) (by decide +kernel) (by decide +kernel)
theorem we_yX3_readParts : Cond.selects RX3 yX3_readParts yX3_readParts ∈ nr_tb := nr_in (i := 7) (by decide +kernel) (by decide +kernel)
theorem we_yX3_expect : Cond.selects RX3 yX3_expect yX3_expect ∈ nr_tb := nr_in (i := 8) (by decide +kernel) (by decide +kernel)
theorem we_yX2_doActs : Cond.selects RX2 yX2_doActs yX2_doActs ∈ nr_tb := nr_in (i := 9) (by decide +kernel) (by decide +kernel)
theorem we_yX2_doAct : Cond.selects RX2 yX2_doAct yX2_doAct ∈ nr_tb := nr_in (i := 10) (by decide +kernel) (by decide +kernel)
theorem we_yX2_befalls : Cond.selects RX2 yX2_befalls yX2_befalls ∈ nr_tb := nr_in (i := 11) (by decide +kernel) (by decide +kernel)
theorem we_yX2_goInto : Cond.selects RX2 yX2_goInto yX2_goInto ∈ nr_tb := nr_in (i := 12) (by decide +kernel) (by decide +kernel)
theorem we_yX4_write : Cond.selects RX4 yX4_write yX4_write ∈ nr_tb := nr_in (i := 13) (by decide +kernel) (by decide +kernel)
theorem we_yX2_doFirstPart : Cond.selects RX2 yX2_doFirstPart yX2_doFirstPart ∈ nr_tb := nr_in (i := 14) (by decide +kernel) (by decide +kernel)
theorem we_yX2_doOrElse : Cond.selects RX2 yX2_doOrElse yX2_doOrElse ∈ nr_tb := nr_in (i := 15) (by decide +kernel) (by decide +kernel)
theorem we_yX2_doSecondPart : Cond.selects RX2 yX2_doSecondPart yX2_doSecondPart ∈ nr_tb := nr_in (i := 16) (by decide +kernel) (by decide +kernel)
theorem we_yX2_doAndHear : Cond.selects RX2 yX2_doAndHear yX2_doAndHear ∈ nr_tb := nr_in (i := 17) (by decide +kernel) (by decide +kernel)
theorem we_yX2_doAndReport : Cond.selects RX2 yX2_doAndReport yX2_doAndReport ∈ nr_tb := nr_in (i := 18) (by decide +kernel) (by decide +kernel)
theorem we_yX2_doSoOften : Cond.selects RX2 yX2_doSoOften yX2_doSoOften ∈ nr_tb := nr_in (i := 19) (by decide +kernel) (by decide +kernel)
theorem we_yX2_doInRoom : Cond.selects RX2 yX2_doInRoom yX2_doInRoom ∈ nr_tb := nr_in (i := 20) (by decide +kernel) (by decide +kernel)
theorem we_yX5_endWithKeys : Cond.selects RX5 yX5_endWithKeys yX5_endWithKeys ∈ nr_tb := nr_in (i := 21) (by decide +kernel) (by decide +kernel)
theorem we_yX5_endWith : Cond.selects RX5 yX5_endWith yX5_endWith ∈ nr_tb := nr_in (i := 22) (by decide +kernel) (by decide +kernel)
theorem we_yX6_bad : Cond.selects RX6 yX6_bad yX6_bad ∈ nr_tb := nr_in (i := 23) (by decide +kernel) (by decide +kernel)
theorem we_yX6_night : Cond.selects RX6 yX6_night yX6_night ∈ nr_tb := nr_in (i := 24) (by decide +kernel) (by decide +kernel)
theorem we_yX6_at : Cond.selects RX6 yX6_at yX6_at ∈ nr_tb := nr_in (i := 25) (by decide +kernel) (by decide +kernel)
theorem we_yX6_put : Cond.selects RX6 yX6_put yX6_put ∈ nr_tb := nr_in (i := 26) (by decide +kernel) (by decide +kernel)
theorem we_yX6_toldOf : Cond.selects RX6 yX6_toldOf yX6_toldOf ∈ nr_tb := nr_in (i := 27) (by decide +kernel) (by decide +kernel)
theorem we_yX6_loud : Cond.selects RX6 yX6_loud yX6_loud ∈ nr_tb := nr_in (i := 28) (by decide +kernel) (by decide +kernel)
theorem we_yX6_awake : Cond.selects RX6 yX6_awake yX6_awake ∈ nr_tb := nr_in (i := 29) (by decide +kernel) (by decide +kernel)
theorem we_yX6_full : Cond.selects RX6 yX6_full yX6_full ∈ nr_tb := nr_in (i := 30) (by decide +kernel) (by decide +kernel)
theorem we_yX6_reads : Cond.selects RX6 yX6_reads yX6_reads ∈ nr_tb := nr_in (i := 31) (by decide +kernel) (by decide +kernel)
theorem we_yX6_skip : Cond.selects RX6 yX6_skip yX6_skip ∈ nr_tb := nr_in (i := 32) (by decide +kernel) (by decide +kernel)
theorem we_yX6_meets : Cond.selects RX6 yX6_meets yX6_meets ∈ nr_tb := nr_in (i := 33) (by decide +kernel) (by decide +kernel)
theorem we_yX6_round : Cond.selects RX6 yX6_round yX6_round ∈ nr_tb := nr_in (i := 34) (by decide +kernel) (by decide +kernel)
theorem we_yX6_goesDown : Cond.selects RX6 yX6_goesDown yX6_goesDown ∈ nr_tb := nr_in (i := 35) (by decide +kernel) (by decide +kernel)
theorem we_yX6_pops : Cond.selects RX6 yX6_pops yX6_pops ∈ nr_tb := nr_in (i := 36) (by decide +kernel) (by decide +kernel)
theorem we_yX6_shuts : Cond.selects RX6 yX6_shuts yX6_shuts ∈ nr_tb := nr_in (i := 37) (by decide +kernel) (by decide +kernel)
theorem we_yX6_notes : Cond.selects RX6 yX6_notes yX6_notes ∈ nr_tb := nr_in (i := 38) (by decide +kernel) (by decide +kernel)
theorem we_yX6_isAsleep : Cond.selects RX6 yX6_isAsleep yX6_isAsleep ∈ nr_tb := nr_in (i := 39) (by decide +kernel) (by decide +kernel)
theorem we_yX6_endsAt : Cond.selects RX6 yX6_endsAt yX6_endsAt ∈ nr_tb := nr_in (i := 40) (by decide +kernel) (by decide +kernel)
theorem we_yX6_behindByte : Cond.selects RX6 yX6_behindByte yX6_behindByte ∈ nr_tb := nr_in (i := 41) (by decide +kernel) (by decide +kernel)
theorem we_yX6_begins : Cond.selects RX6 yX6_begins yX6_begins ∈ nr_tb := nr_in (i := 42) (by decide +kernel) (by decide +kernel)
theorem we_yX6_befalls : Cond.selects RX6 yX6_befalls yX6_befalls ∈ nr_tb := nr_in (i := 43) (by decide +kernel) (by decide +kernel)
theorem we_yX6_goesIn : Cond.selects RX6 yX6_goesIn yX6_goesIn ∈ nr_tb := nr_in (i := 44) (by decide +kernel) (by decide +kernel)
theorem we_yX6_pushes : Cond.selects RX6 yX6_pushes yX6_pushes ∈ nr_tb := nr_in (i := 45) (by decide +kernel) (by decide +kernel)
theorem we_yX6_figureFrom : Cond.selects RX6 yX6_figureFrom yX6_figureFrom ∈ nr_tb := nr_in (i := 46) (by decide +kernel) (by decide +kernel)
theorem we_yX6_takesKey : Cond.selects RX6 yX6_takesKey yX6_takesKey ∈ nr_tb := nr_in (i := 47) (by decide +kernel) (by decide +kernel)
theorem we_yX6_wakes : Cond.selects RX6 yX6_wakes yX6_wakes ∈ nr_tb := nr_in (i := 48) (by decide +kernel) (by decide +kernel)
theorem we_yX6_looksIn : Cond.selects RX6 yX6_looksIn yX6_looksIn ∈ nr_tb := nr_in (i := 49) (by decide +kernel) (by decide +kernel)
theorem we_yX6_keepsWas : Cond.selects RX6 yX6_keepsWas yX6_keepsWas ∈ nr_tb := nr_in (i := 50) (by decide +kernel) (by decide +kernel)
theorem we_yX6_keep : Cond.selects RX6 yX6_keep yX6_keep ∈ nr_tb := nr_in (i := 51) (by decide +kernel) (by decide +kernel)
theorem we_yX6_bring : Cond.selects RX6 yX6_bring yX6_bring ∈ nr_tb := nr_in (i := 52) (by decide +kernel) (by decide +kernel)
theorem we_yX6_toldWas : Cond.selects RX6 yX6_toldWas yX6_toldWas ∈ nr_tb := nr_in (i := 53) (by decide +kernel) (by decide +kernel)
theorem we_yX6_endBy : Cond.selects RX6 yX6_endBy yX6_endBy ∈ nr_tb := nr_in (i := 54) (by decide +kernel) (by decide +kernel)
theorem we_yX6_no : Cond.selects RX6 yX6_no yX6_no ∈ nr_tb := nr_in (i := 55) (by decide +kernel) (by decide +kernel)
theorem we_yX6_counted : Cond.selects RX6 yX6_counted yX6_counted ∈ nr_tb := nr_in (i := 56) (by decide +kernel) (by decide +kernel)
theorem we_yX6_lamps : Cond.selects RX6 yX6_lamps yX6_lamps ∈ nr_tb := nr_in (i := 57) (by decide +kernel) (by decide +kernel)
theorem nr_u0 : ∀ w ∈ u_ws RX0 TX0 1, w ∈ nr_tb := by decide +kernel
theorem nr_u1 : ∀ w ∈ u_ws RX1 TX1 2, w ∈ nr_tb := by decide +kernel
theorem nr_u2 : ∀ w ∈ u_ws RX2 TX2 3, w ∈ nr_tb := by decide +kernel
theorem nr_u3 : ∀ w ∈ u_ws RX3 TX3 11, w ∈ nr_tb := by decide +kernel
theorem nr_u4 : ∀ w ∈ u_ws RX4 TX4 5, w ∈ nr_tb := by decide +kernel
theorem nr_u5 : ∀ w ∈ u_ws RX5 TX5 10, w ∈ nr_tb := by decide +kernel
theorem nr_u6 : ∀ w ∈ u_ws RX6 TX6 36, w ∈ nr_tb := by decide +kernel
end
section
/-- what is fixed: the launch, the classes' numbers and slots, the two array classes -/
abbrev nr_M : Type := Launch × (Nat → ClassId) × (Nat → Nat → Nat) × ClassId × ClassId
abbrev nr_S : Type := Nat × Nat × (Nat → Int32) × (Nat → Nat → Int32)
abbrev nr_CX : Type := Program × Env × Room × State × MethodId × Array Value × List Frame × Method × Code × Nat × Nat
def nr_il (k : Nat) : Nat := match k with
  | 2 => 58 | 4 => 58 | 6 => 464 | 8 => 100 | 9 => 100 | 10 => 100 | 11 => 100 | 12 => 100
  | 14 => 8 | 15 => 150 | 17 => 8 | 18 => 150
  | 21 => 58 | 22 => 464 | 23 => 3 | 24 => 100 | 25 => 100 | 26 => 100 | 27 => 9 | 28 => 150 | 29 => 9 | 30 => 9 | 31 => 9 | 33 => 8 | 34 => 150 | 35 => 58
  | _ => 0
def nr_hp (Γ : nr_M) (ρ : Nat → Nat) (h t : Nat) (z : Nat → Int32) (g : Nat → Nat → Int32) (k : Nat) : va_E := match k with
  | 0 => .inr (5, [.ref (ρ 1), .ref (ρ 3), .ref (ρ 5), .ref (ρ 7), .ref (ρ 13), .ref (ρ 16), .ref (ρ 19), .int (z 0), .int (z 1), .int (z 2)])
  | 1 => .inr (0, [.ref (ρ 2)])
  | 2 => .inl (Γ.2.2.2.1, 58, .inl (g 2))
  | 3 => .inr (0, [.ref (ρ 4)])
  | 4 => .inl (Γ.2.2.2.1, 58, .inl (g 4))
  | 5 => .inr (1, [.ref (ρ 6), .int (z 3)])
  | 6 => .inl (Γ.2.2.2.1, 464, .inl (g 6))
  | 7 => .inr (3, [.ref (ρ 8), .ref (ρ 9), .ref (ρ 10), .ref (ρ 11), .ref (ρ 12), .int (z 4), .int (z 5), .int (z 6), .int (z 7), .int (z 8), .int (z 9)])
  | 8 => .inl (Γ.2.2.2.1, 100, .inl (g 8))
  | 9 => .inl (Γ.2.2.2.1, 100, .inl (g 9))
  | 10 => .inl (Γ.2.2.2.1, 100, .inl (g 10))
  | 11 => .inl (Γ.2.2.2.1, 100, .inl (g 11))
  | 12 => .inl (Γ.2.2.2.1, 100, .inl (g 12))
  | 13 => .inr (4, [.ref (ρ 14), .ref (ρ 15), .int (z 10), .int (z 11), .int (z 12)])
  | 14 => .inl (Γ.2.2.2.1, 8, .inl (g 14))
  | 15 => .inl (Γ.2.2.2.1, 150, .inl (g 15))
  | 16 => .inr (4, [.ref (ρ 17), .ref (ρ 18), .int (z 13), .int (z 14), .int (z 15)])
  | 17 => .inl (Γ.2.2.2.1, 8, .inl (g 17))
  | 18 => .inl (Γ.2.2.2.1, 150, .inl (g 18))
  | 19 => .inr (2, [.ref (ρ 7), .ref (ρ h), .ref (ρ t)])
  | 20 => .inr (6, [.ref (ρ 21), .ref (ρ 22), .int (z 20), .ref (ρ 23), .ref (ρ 24), .int (z 21), .ref (ρ 25), .ref (ρ 26), .int (z 22), .int (z 23), .int (z 24), .int (z 25), .ref (ρ 27), .ref (ρ 28), .int (z 26), .int (z 27), .int (z 28), .int (z 29), .int (z 30), .int (z 31), .int (z 32), .int (z 33), .int (z 34), .ref (ρ 29), .ref (ρ 30), .ref (ρ 31), .ref (ρ 32), .int (z 35), .int (z 36), .int (z 37), .ref (ρ 33), .int (z 38), .ref (ρ 34), .int (z 39), .int (z 40), .ref (ρ 35)])
  | 21 => .inl (Γ.2.2.2.1, 58, .inl (g 21))
  | 22 => .inl (Γ.2.2.2.1, 464, .inl (g 22))
  | 23 => .inl (Γ.2.2.2.1, 3, .inl (g 23))
  | 24 => .inl (Γ.2.2.2.1, 100, .inl (g 24))
  | 25 => .inl (Γ.2.2.2.1, 100, .inl (g 25))
  | 26 => .inl (Γ.2.2.2.1, 100, .inl (g 26))
  | 27 => .inl (Γ.2.2.2.1, 9, .inl (g 27))
  | 28 => .inl (Γ.2.2.2.1, 150, .inl (g 28))
  | 29 => .inl (Γ.2.2.2.1, 9, .inl (g 29))
  | 30 => .inl (Γ.2.2.2.1, 9, .inl (g 30))
  | 31 => .inl (Γ.2.2.2.1, 9, .inl (g 31))
  | 32 => .inl (Γ.2.2.2.2, 9, .inl (g 32))
  | 33 => .inl (Γ.2.2.2.1, 8, .inl (g 33))
  | 34 => .inl (Γ.2.2.2.1, 150, .inl (g 34))
  | 35 => .inl (Γ.2.2.2.1, 58, .inl (g 35))
  | _ => .inr (0, [])
def nr_ws (Γ : nr_M) (ρ : Nat → Nat) (h t : Nat) (z : Nat → Int32) (g : Nat → Nat → Int32) : va_W := (List.range 36).map (fun k => (ρ k, nr_hp Γ ρ h t z g k))
def nr_A (ρ : Nat → Nat) : Nat → Prop := fun q => ∃ k, k < 36 ∧ q = ρ k
def nr_inj (ρ : Nat → Nat) : Prop := ∀ i j, i < 36 → j < 36 → ρ i = ρ j → i = j
theorem nr_ws_get {Γ : nr_M} {ρ : Nat → Nat} {h t : Nat} {z : Nat → Int32} {g : Nat → Nat → Int32} {k : Nat} (hk : k < 36) : (nr_ws Γ ρ h t z g)[k]? = some (ρ k, nr_hp Γ ρ h t z g k) := by
  simp [nr_ws, hk]
theorem nr_ws_of {Γ : nr_M} {ρ : Nat → Nat} {h t : Nat} {z : Nat → Int32} {g : Nat → Nat → Int32} {k : Nat} {q : Nat × va_E} (hk : (nr_ws Γ ρ h t z g)[k]? = some q) : k < 36 ∧ q = (ρ k, nr_hp Γ ρ h t z g k) := by
  have hl : k < 36 := by
    have := (List.getElem?_eq_some_iff.mp hk).1
    simpa [nr_ws] using this
  exact ⟨hl, (Option.some.inj ((nr_ws_get hl).symm.trans hk)).symm⟩
theorem nr_D {Γ : nr_M} {ρ : Nat → Nat} {h t : Nat} {z : Nat → Int32} {g : Nat → Nat → Int32} (hi : nr_inj ρ) : va_D (nr_A ρ) (nr_ws Γ ρ h t z g) := by
  refine ⟨fun i j p q h1 h2 h3 => ?_, fun k q h1 => ?_⟩
  · obtain ⟨a1, b1⟩ := nr_ws_of h1
    obtain ⟨a2, b2⟩ := nr_ws_of h2
    subst b1; subst b2
    exact hi i j a1 a2 h3
  · obtain ⟨a1, b1⟩ := nr_ws_of h1
    subst b1
    exact ⟨k, a1, rfl⟩
theorem nr_ws_set {Γ : nr_M} {ρ : Nat → Nat} {h t h' t' : Nat} {z z' : Nat → Int32} {g g' : Nat → Nat → Int32} {k : Nat} {e : va_E} (hq : ∀ q, q < 36 → va_up (nr_hp Γ ρ h t z g) k e q = nr_hp Γ ρ h' t' z' g' q) : (nr_ws Γ ρ h t z g).set k (ρ k, e) = nr_ws Γ ρ h' t' z' g' := by
  refine List.ext_getElem? fun j => ?_
  by_cases hj : j < 36
  · rw [nr_ws_get hj, ← hq j hj]
    by_cases hk : j = k
    · subst hk
      rw [List.getElem?_set_self (by simpa [nr_ws] using hj)]
      simp [va_up]
    · rw [List.getElem?_set_ne (Ne.symm hk), nr_ws_get hj]
      simp [va_up, hk]
  · rw [List.getElem?_eq_none (by simp [nr_ws]; omega), List.getElem?_eq_none (by simp [nr_ws]; omega)]
/-- the three static tables -/
def nr_sn (k : Nat) : Nat := match k with | 40 => 4 | 41 => 8 | 42 => 3 | _ => 0
def nr_sf (k : Nat) : Nat → Int32 := match k with
  | 40 => fun j => [4, 3, 3, 9].getD j 0
  | 41 => fun j => [0, 2, 4, 8, 6, 10, 12, 14].getD j 0
  | _ => fun j => [0, 3, 1].getD j 0
def nr_sN (k : Nat) : String := match k with | 40 => "SETS_MOST" | 41 => "KEY_SETS" | _ => "CURED"
def nr_ST (ρ : Nat → Nat) (U : State) (H : Heap) : Prop := ∀ k, 40 ≤ k → k < 43 → va_Z "NightRounds" (nr_sN k) "[I" (.ref (ρ k)) (nr_A ρ) U H ∧ va_T .int (ρ k) (nr_sn k) (fun j => .int (nr_sf k j)) (nr_A ρ) U H
def nr_PW (Γ : nr_M) (ρ : Nat → Nat) (h t : Nat) (z : Nat → Int32) (g : Nat → Nat → Int32) (U : State) : Prop :=
  va_P (Γ.2.1, Γ.2.2.1) vwCl (nr_ws Γ ρ h t z g) U.heap ∧ va_K (Γ.2.1, Γ.2.2.1) vwCl [(Γ.2.2.2.1, .int), (Γ.2.2.2.2, .boolean)] U ∧ nr_inj ρ ∧ nr_ST ρ U U.heap
def nr_Bi (Γ : nr_M) (ρ : Nat → Nat) : nr_S → State → Prop := fun u U => nr_PW Γ ρ u.1 u.2.1 u.2.2.1 u.2.2.2 U
def nr_rm (d : Nat) : Room := { frames := d, cells := 0, slots := 0, locals := 100 * d }
def nr_wm (y : MethodName) (cc : ByteArray) (nL : Nat) (ret : Option FieldType) : List Cond := Cond.code y cc nL ret :: nr_tb
def nr_Si (Γ : nr_M) (ρ : Nat → Nat) (d : Nat) (y : MethodName) (cc : ByteArray) (nL : Nat) (ret : Option FieldType) (av : List Value) (h t : Nat) (z : Nat → Int32) (g : Nat → Nat → Int32) (post : Int32 → nr_S → Prop) : Prop :=
  Met Γ.1 y (nr_wm y cc nL ret) (nr_rm d) (va_Pc av (nr_PW Γ ρ h t z g)) (va_Qi post (nr_Bi Γ ρ) (nr_A ρ)) 0 0 (nr_A ρ)
def nr_Sv (Γ : nr_M) (ρ : Nat → Nat) (d : Nat) (y : MethodName) (cc : ByteArray) (nL : Nat) (ret : Option FieldType) (av : List Value) (h t : Nat) (z : Nat → Int32) (g : Nat → Nat → Int32) (post : nr_S → Prop) : Prop :=
  Met Γ.1 y (nr_wm y cc nL ret) (nr_rm d) (va_Pc av (nr_PW Γ ρ h t z g)) (va_Qv post (nr_Bi Γ ρ) (nr_A ρ)) 0 0 (nr_A ρ)
def nr_Sl (Γ : nr_M) (ρ : Nat → Nat) (d : Nat) (y : MethodName) (cc : ByteArray) (nL : Nat) (ret : Option FieldType) (av : List Value) (h t : Nat) (z : Nat → Int32) (g : Nat → Nat → Int32) (post : Int64 → nr_S → Prop) : Prop :=
  Met Γ.1 y (nr_wm y cc nL ret) (nr_rm d) (va_Pc av (nr_PW Γ ρ h t z g)) (va_Ql post (nr_Bi Γ ρ) (nr_A ρ)) 0 0 (nr_A ρ)
/-- what a method's walk knows -/
def nr_Cx (Γ : nr_M) (ρ : Nat → Nat) (X : nr_CX) (y : MethodName) (cc : ByteArray) (nL : Nat) (ret : Option FieldType) (d : Nat) : Prop :=
  X.1.tables.exec = Jvm.exec ∧ X.2.2.2.2.2.2.2.2.1.code = cc ∧ X.2.2.2.2.2.2.2.2.1.maxLocals = nL ∧ X.2.2.2.1.vm.findClass y.cls = some X.2.2.2.2.1.cls ∧ (∀ w ∈ nr_tb, w.before X.2.2.2.2.2.1 X.2.2.2.1 = true) ∧ va_K (Γ.2.1, Γ.2.2.1) vwCl [(Γ.2.2.2.1, .int), (Γ.2.2.2.2, .boolean)] X.2.2.2.1 ∧ nr_inj ρ ∧ nr_ST ρ X.2.2.2.1 X.2.2.2.1.heap ∧ (d ≤ X.2.2.1.frames ∧ 100 * d ≤ X.2.2.1.locals) ∧ (X.2.2.2.2.2.2.2.2.2.1 ≤ X.2.2.1.cells ∧ X.2.2.2.2.2.2.2.2.2.2 ≤ X.2.2.1.slots) ∧ X.2.2.2.2.2.2.2.1.sig.returnType = ret ∧ X.2.2.2.2.2.2.2.1.locks = false
def nr_W (Γ : nr_M) (X : nr_CX) (H : Heap) (locs : List Loc) (Q : State → Prop) (f : JFrame) : Prop := W X.1 Γ.1 X.2.1 X.2.2.1 X.2.2.2.1 X.2.2.2.2.1 X.2.2.2.2.2.1 X.2.2.2.2.2.2.1 X.2.2.2.2.2.2.2.1 X.2.2.2.2.2.2.2.2.1 H locs X.2.2.2.2.2.2.2.2.2.1 X.2.2.2.2.2.2.2.2.2.2 Q f
def nr_G (Γ : nr_M) (ρ : Nat → Nat) (X : nr_CX) (nL : Nat) (Q : State → Prop) (pc : Nat) (lv : List (Nat × Value)) (st : List Value) (h t : Nat) (z : Nat → Int32) (g : Nat → Nat → Int32) : Prop :=
  ∀ (H : Heap) (locs : List Loc) (ls : Array Slot), va_P (Γ.2.1, Γ.2.2.1) vwCl (nr_ws Γ ρ h t z g) H → va_S (nr_A ρ) X.2.2.2.1.heap H locs → lv_has ls nL lv → nr_W Γ X H locs Q (F0 X.2.2.2.2.1 pc ls st)
def nr_Qi (Γ : nr_M) (ρ : Nat → Nat) (X : nr_CX) (post : Int32 → nr_S → Prop) : State → Prop := MQ X.2.2.2.2.2.2.1 (va_Qi post (nr_Bi Γ ρ) (nr_A ρ)) X.2.2.2.2.2.1 X.2.2.2.1 X.2.2.2.2.2.2.2.2.2.1 X.2.2.2.2.2.2.2.2.2.2 (nr_A ρ)
def nr_Qv (Γ : nr_M) (ρ : Nat → Nat) (X : nr_CX) (post : nr_S → Prop) : State → Prop := MQ X.2.2.2.2.2.2.1 (va_Qv post (nr_Bi Γ ρ) (nr_A ρ)) X.2.2.2.2.2.1 X.2.2.2.1 X.2.2.2.2.2.2.2.2.2.1 X.2.2.2.2.2.2.2.2.2.2 (nr_A ρ)
def nr_Ql (Γ : nr_M) (ρ : Nat → Nat) (X : nr_CX) (post : Int64 → nr_S → Prop) : State → Prop := MQ X.2.2.2.2.2.2.1 (va_Ql post (nr_Bi Γ ρ) (nr_A ρ)) X.2.2.2.2.2.1 X.2.2.2.1 X.2.2.2.2.2.2.2.2.2.1 X.2.2.2.2.2.2.2.2.2.2 (nr_A ρ)
section
variable {Γ : nr_M} {ρ : Nat → Nat} {X : nr_CX} {y : MethodName} {cc : ByteArray} {nL : Nat} {ret : Option FieldType} {d : Nat} {Q : State → Prop} {pc n : Nat} {lv : List (Nat × Value)} {st : List Value} {h t : Nat} {z : Nat → Int32} {g : Nat → Nat → Int32}
theorem nr_ST_moved {u U : State} (hvm : u.vm.Alike U.vm) {H : Heap} (hs : nr_ST ρ u H) : nr_ST ρ U H := fun k h1 h2 => ⟨(hs k h1 h2).1.moved hvm, (hs k h1 h2).2.moved hvm⟩
theorem nr_ST_kept {U : State} {H H1 : Heap} (hs : nr_ST ρ U H) (hq : ∀ a : Nat, a < H.size → ¬ nr_A ρ a → H1[a]? = H[a]?) : nr_ST ρ U H1 := fun k h1 h2 => ⟨(hs k h1 h2).1.kept hq, (hs k h1 h2).2.kept hq⟩
/-- the world at a call or at the end -/
theorem nr_PW_of (hX : nr_Cx Γ ρ X y cc nL ret d) {H : Heap} {locs : List Loc} (hP : va_P (Γ.2.1, Γ.2.2.1) vwCl (nr_ws Γ ρ h t z g) H) (hS : va_S (nr_A ρ) X.2.2.2.1.heap H locs) {U : State} (hU : U.heap = H) (hA : X.2.2.2.1.vm.Alike U.vm) : nr_PW Γ ρ h t z g U := by
  obtain ⟨-, -, -, -, -, hK, hI, hst, -⟩ := hX
  refine ⟨by rw [hU]; exact hP, va_K.moved hA hK, hI, ?_⟩
  rw [hU]
  exact nr_ST_moved hA (nr_ST_kept hst hS.2.1)
theorem nr_blind {av : List Value} : FrameBlind (va_Pc av (nr_PW Γ ρ h t z g)) := by
  intro a U f mk hq
  obtain ⟨q0, q1, q2, q3, q4⟩ := hq
  exact ⟨q0, q1, va_K.moved (u := U) (U := U.calling f mk a) (Vm.Alike.refl U.vm) q2, q3, nr_ST_moved (u := U) (U := U.calling f mk a) (Vm.Alike.refl U.vm) q4⟩
theorem nr_body_i (hy : plainName y.cls = true) {av : List Value} {post : Int32 → nr_S → Prop} (hlen : (lg_sl av).length ≤ nL) (hlv : lv_args 0 av = lv)
    (body : ∀ X, nr_Cx Γ ρ X y cc nL ret d → nr_G Γ ρ X nL (nr_Qi Γ ρ X post) 0 lv [] h t z g) : nr_Si Γ ρ d y cc nL ret av h t z g post := by
  refine Met.ofW (cc := cc) (maxL := nL) (ret := ret) hy rfl ?_
  intro p e s m args below meth c s₁ B hml hv
  obtain ⟨rfl, hP, hK, hI, hst⟩ := hv
  have hts := atoms_spec (ws := nr_wm y cc nL ret) B.pre
  have hown : s.vm.findClass y.cls = some m.cls := findClass_of_methodNamed B.named
  have hX : nr_Cx Γ ρ (p, e, nr_rm d, s, m, av.toArray, below, meth, c, 0, 0) y cc nL ret d := ⟨B.exec, B.bytes, hml, hown, fun w hw => hts w (List.mem_cons_of_mem _ hw), hK, hI, hst, ⟨Nat.le_refl _, Nat.le_refl _⟩, ⟨Nat.le_refl _, Nat.le_refl _⟩, B.returns, B.notSynchronized⟩
  rw [lg_entry_eq]
  exact body _ hX s.heap [] _ hP va_S.rf (hlv ▸ lv_entry av hlen)
theorem nr_body_v (hy : plainName y.cls = true) {av : List Value} {post : nr_S → Prop} (hlen : (lg_sl av).length ≤ nL) (hlv : lv_args 0 av = lv)
    (body : ∀ X, nr_Cx Γ ρ X y cc nL ret d → nr_G Γ ρ X nL (nr_Qv Γ ρ X post) 0 lv [] h t z g) : nr_Sv Γ ρ d y cc nL ret av h t z g post := by
  refine Met.ofW (cc := cc) (maxL := nL) (ret := ret) hy rfl ?_
  intro p e s m args below meth c s₁ B hml hv
  obtain ⟨rfl, hP, hK, hI, hst⟩ := hv
  have hts := atoms_spec (ws := nr_wm y cc nL ret) B.pre
  have hown : s.vm.findClass y.cls = some m.cls := findClass_of_methodNamed B.named
  have hX : nr_Cx Γ ρ (p, e, nr_rm d, s, m, av.toArray, below, meth, c, 0, 0) y cc nL ret d := ⟨B.exec, B.bytes, hml, hown, fun w hw => hts w (List.mem_cons_of_mem _ hw), hK, hI, hst, ⟨Nat.le_refl _, Nat.le_refl _⟩, ⟨Nat.le_refl _, Nat.le_refl _⟩, B.returns, B.notSynchronized⟩
  rw [lg_entry_eq]
  exact body _ hX s.heap [] _ hP va_S.rf (hlv ▸ lv_entry av hlen)
theorem nr_body_l (hy : plainName y.cls = true) {av : List Value} {post : Int64 → nr_S → Prop} (hlen : (lg_sl av).length ≤ nL) (hlv : lv_args 0 av = lv)
    (body : ∀ X, nr_Cx Γ ρ X y cc nL ret d → nr_G Γ ρ X nL (nr_Ql Γ ρ X post) 0 lv [] h t z g) : nr_Sl Γ ρ d y cc nL ret av h t z g post := by
  refine Met.ofW (cc := cc) (maxL := nL) (ret := ret) hy rfl ?_
  intro p e s m args below meth c s₁ B hml hv
  obtain ⟨rfl, hP, hK, hI, hst⟩ := hv
  have hts := atoms_spec (ws := nr_wm y cc nL ret) B.pre
  have hown : s.vm.findClass y.cls = some m.cls := findClass_of_methodNamed B.named
  have hX : nr_Cx Γ ρ (p, e, nr_rm d, s, m, av.toArray, below, meth, c, 0, 0) y cc nL ret d := ⟨B.exec, B.bytes, hml, hown, fun w hw => hts w (List.mem_cons_of_mem _ hw), hK, hI, hst, ⟨Nat.le_refl _, Nat.le_refl _⟩, ⟨Nat.le_refl _, Nat.le_refl _⟩, B.returns, B.notSynchronized⟩
  rw [lg_entry_eq]
  exact body _ hX s.heap [] _ hP va_S.rf (hlv ▸ lv_entry av hlen)
/-- the ends -/
theorem G_iret (hX : nr_Cx Γ ρ X y cc nL ret d) {ty : FieldType} (hr : ret = some ty) {post : Int32 → nr_S → Prop} {r : Int32} (hd : decode cc pc = .ok (.ireturn, 1)) (hn : narrow ty (.int r) = .int r) (hp : post r (h, t, z, g)) : nr_G Γ ρ X nL (nr_Qi Γ ρ X post) pc lv [.int r] h t z g := by
  intro H locs ls hP hS hl
  have hX0 := hX
  obtain ⟨hx, hb, hml, hown, hts, hK, hI, hst, hR, hC, hret, hlk⟩ := hX
  exact W.zret (ty := ty) hx hb (hret.trans hr) hn (fun u hu hW => ⟨⟨r, (h, t, z, g), rfl, hp, nr_PW_of hX0 hP hS hu hW.alike⟩, by rw [hu]; exact hS.1, fun q h1 h2 => by rw [hu]; exact hS.2.1 q h1 h2⟩) hS.2.2 hd hlk
theorem G_vret (hX : nr_Cx Γ ρ X y cc nL none d) {post : nr_S → Prop} (hd : decode cc pc = .ok (.return_, 1)) (hp : post (h, t, z, g)) : nr_G Γ ρ X nL (nr_Qv Γ ρ X post) pc lv [] h t z g := by
  intro H locs ls hP hS hl
  have hX0 := hX
  obtain ⟨hx, hb, hml, hown, hts, hK, hI, hst, hR, hC, hret, hlk⟩ := hX
  exact W.vret hx hb hret (fun u hu hW => ⟨⟨(h, t, z, g), rfl, hp, nr_PW_of hX0 hP hS hu hW.alike⟩, by rw [hu]; exact hS.1, fun q h1 h2 => by rw [hu]; exact hS.2.1 q h1 h2⟩) hS.2.2 hd hlk
theorem G_lret (hX : nr_Cx Γ ρ X y cc nL (some .long) d) {post : Int64 → nr_S → Prop} {r : Int64} (hd : decode cc pc = .ok (.lreturn, 1)) (hp : post r (h, t, z, g)) : nr_G Γ ρ X nL (nr_Ql Γ ρ X post) pc lv [.long r] h t z g := by
  intro H locs ls hP hS hl
  have hX0 := hX
  obtain ⟨hx, hb, hml, hown, hts, hK, hI, hst, hR, hC, hret, hlk⟩ := hX
  exact W.lret hx hb hret (fun u hu hW => ⟨⟨r, (h, t, z, g), rfl, hp, nr_PW_of hX0 hP hS hu hW.alike⟩, by rw [hu]; exact hS.1, fun q h1 h2 => by rw [hu]; exact hS.2.1 q h1 h2⟩) hS.2.2 hd hlk
/-- locals -/
def nr_lg : List (Nat × Value) → Nat → Option Value
  | [], _ => none
  | q :: r, i => if q.1 = i then some q.2 else nr_lg r i
theorem nr_lg_in {i : Nat} {v : Value} : ∀ {l : List (Nat × Value)}, nr_lg l i = some v → (i, v) ∈ l
  | [], hq => by cases hq
  | q :: r, hq => by
    unfold nr_lg at hq
    by_cases hi : q.1 = i
    · rw [if_pos hi] at hq
      cases hq
      subst hi
      exact List.mem_cons_self
    · rw [if_neg hi] at hq
      exact List.mem_cons_of_mem _ (nr_lg_in hq)
theorem nr_at {ls : Array Slot} (hl : lv_has ls nL lv) {i : Nat} {v : Value} (hk : nr_lg lv i = some v) : ls[i]? = some (.val v) := hl.2.2 (i, v) (nr_lg_in hk)
theorem G_iconst (hX : nr_Cx Γ ρ X y cc nL ret d) {k : Int} {v : Int32} (hd : decode cc pc = .ok (.iconst k, 1)) (hv : Int32.ofInt k = v) (hn : pc + 1 = n) (kk : nr_G Γ ρ X nL Q n lv (.int v :: st) h t z g) : nr_G Γ ρ X nL Q pc lv st h t z g := by
  subst hn; intro H locs ls hP hS hl; exact lv_iconst hX.1 hX.2.1 hd hv (kk H locs ls hP hS hl)
theorem G_bipush (hX : nr_Cx Γ ρ X y cc nL ret d) {k : Int} {v : Int32} (hd : decode cc pc = .ok (.bipush k, 2)) (hv : (Int8.ofInt k).toInt32 = v) (hn : pc + 2 = n) (kk : nr_G Γ ρ X nL Q n lv (.int v :: st) h t z g) : nr_G Γ ρ X nL Q pc lv st h t z g := by
  subst hn; intro H locs ls hP hS hl; exact lv_bipush hX.1 hX.2.1 hd hv (kk H locs ls hP hS hl)
theorem G_sipush (hX : nr_Cx Γ ρ X y cc nL ret d) {k : Int} {v : Int32} (hd : decode cc pc = .ok (.sipush k, 3)) (hv : (Int16.ofInt k).toInt32 = v) (hn : pc + 3 = n) (kk : nr_G Γ ρ X nL Q n lv (.int v :: st) h t z g) : nr_G Γ ρ X nL Q pc lv st h t z g := by
  subst hn; intro H locs ls hP hS hl; exact lv_sipush hX.1 hX.2.1 hd hv (kk H locs ls hP hS hl)
theorem G_lconst (hX : nr_Cx Γ ρ X y cc nL ret d) {k : Fin 2} {v : Int64} (hd : decode cc pc = .ok (.lconst k, 1)) (hv : Int64.ofNat (k : Nat) = v) (hn : pc + 1 = n) (kk : nr_G Γ ρ X nL Q n lv (.long v :: st) h t z g) : nr_G Γ ρ X nL Q pc lv st h t z g := by
  subst hn; intro H locs ls hP hS hl; exact lv_lconst hX.1 hX.2.1 hd hv (kk H locs ls hP hS hl)
theorem G_ldc (hX : nr_Cx Γ ρ X y cc nL ret d) {i : Nat} {v : Int32} (hd : decode cc pc = .ok (.ldc i, 2)) (hc : Cond.constant y.cls i v ∈ nr_tb) (hn : pc + 2 = n) (kk : nr_G Γ ρ X nL Q n lv (.int v :: st) h t z g) : nr_G Γ ρ X nL Q pc lv st h t z g := by
  subst hn; intro H locs ls hP hS hl; exact lv_ldc hX.1 hX.2.1 hX.2.2.2.1 (hX.2.2.2.2.1 _ hc) hd (kk H locs ls hP hS hl)
theorem G_ldc2 (hX : nr_Cx Γ ρ X y cc nL ret d) {i : Nat} {v : Int64} (hd : decode cc pc = .ok (.ldc2_w i, 3)) (hc : Cond.constantLong y.cls i v ∈ nr_tb) (hn : pc + 3 = n) (kk : nr_G Γ ρ X nL Q n lv (.long v :: st) h t z g) : nr_G Γ ρ X nL Q pc lv st h t z g := by
  subst hn; intro H locs ls hP hS hl; exact lv_ldc2 hX.1 hX.2.1 hX.2.2.2.1 (hX.2.2.2.2.1 _ hc) hd (kk H locs ls hP hS hl)
theorem G_iload_n (hX : nr_Cx Γ ρ X y cc nL ret d) {k : Fin 4} {x : Int32} (hd : decode cc pc = .ok (.iload_n k, 1)) (hl0 : nr_lg lv (k : Nat) = some (.int x)) (hn : pc + 1 = n) (kk : nr_G Γ ρ X nL Q n lv (.int x :: st) h t z g) : nr_G Γ ρ X nL Q pc lv st h t z g := by
  subst hn; intro H locs ls hP hS hl; exact lv_iload_n hX.1 hX.2.1 hd rfl (nr_at hl hl0) (kk H locs ls hP hS hl)
theorem G_iload (hX : nr_Cx Γ ρ X y cc nL ret d) {k : Nat} {x : Int32} (hd : decode cc pc = .ok (.iload k, 2)) (hl0 : nr_lg lv k = some (.int x)) (hn : pc + 2 = n) (kk : nr_G Γ ρ X nL Q n lv (.int x :: st) h t z g) : nr_G Γ ρ X nL Q pc lv st h t z g := by
  subst hn; intro H locs ls hP hS hl; exact lv_iload hX.1 hX.2.1 hd (nr_at hl hl0) (kk H locs ls hP hS hl)
theorem G_lload_n (hX : nr_Cx Γ ρ X y cc nL ret d) {k : Fin 4} {x : Int64} (hd : decode cc pc = .ok (.lload_n k, 1)) (hl0 : nr_lg lv (k : Nat) = some (.long x)) (hn : pc + 1 = n) (kk : nr_G Γ ρ X nL Q n lv (.long x :: st) h t z g) : nr_G Γ ρ X nL Q pc lv st h t z g := by
  subst hn; intro H locs ls hP hS hl; exact lv_lload_n hX.1 hX.2.1 hd rfl (nr_at hl hl0) (kk H locs ls hP hS hl)
theorem G_lload (hX : nr_Cx Γ ρ X y cc nL ret d) {k : Nat} {x : Int64} (hd : decode cc pc = .ok (.lload k, 2)) (hl0 : nr_lg lv k = some (.long x)) (hn : pc + 2 = n) (kk : nr_G Γ ρ X nL Q n lv (.long x :: st) h t z g) : nr_G Γ ρ X nL Q pc lv st h t z g := by
  subst hn; intro H locs ls hP hS hl; exact lv_lload hX.1 hX.2.1 hd (nr_at hl hl0) (kk H locs ls hP hS hl)
theorem G_aload_n (hX : nr_Cx Γ ρ X y cc nL ret d) {k : Fin 4} {x : Nat} (hd : decode cc pc = .ok (.aload_n k, 1)) (hl0 : nr_lg lv (k : Nat) = some (.ref x)) (hn : pc + 1 = n) (kk : nr_G Γ ρ X nL Q n lv (.ref x :: st) h t z g) : nr_G Γ ρ X nL Q pc lv st h t z g := by
  subst hn; intro H locs ls hP hS hl; exact lv_aload_n hX.1 hX.2.1 hd rfl (nr_at hl hl0) (kk H locs ls hP hS hl)
def nr_s1 (lv : List (Nat × Value)) (i : Nat) (v : Value) : List (Nat × Value) := (i, v) :: lv.filter (fun q => !(q.1 == i) && !(q.1 + 1 == i && q.2.category == 2))
def nr_s2 (lv : List (Nat × Value)) (i : Nat) (v : Value) : List (Nat × Value) := (i, v) :: lv.filter (fun q => !(q.1 == i) && (!(q.1 == i + 1) && !(q.1 + 1 == i && q.2.category == 2)))
theorem G_istore_n (hX : nr_Cx Γ ρ X y cc nL ret d) {k : Fin 4} {x : Int32} {lv' : List (Nat × Value)} (hd : decode cc pc = .ok (.istore_n k, 1)) (hk : (k : Nat) < nL) (hl0 : nr_s1 lv (k : Nat) (.int x) = lv') (hn : pc + 1 = n) (kk : nr_G Γ ρ X nL Q n lv' st h t z g) : nr_G Γ ρ X nL Q pc lv (.int x :: st) h t z g := by
  subst hn; intro H locs ls hP hS hl; exact lv_istore_n hX.1 hX.2.1 hd rfl hl hk hl0 (fun ls hl => kk H locs ls hP hS hl)
theorem G_istore (hX : nr_Cx Γ ρ X y cc nL ret d) {k : Nat} {x : Int32} {lv' : List (Nat × Value)} (hd : decode cc pc = .ok (.istore k, 2)) (hk : k < nL) (hl0 : nr_s1 lv k (.int x) = lv') (hn : pc + 2 = n) (kk : nr_G Γ ρ X nL Q n lv' st h t z g) : nr_G Γ ρ X nL Q pc lv (.int x :: st) h t z g := by
  subst hn; intro H locs ls hP hS hl; exact lv_istore hX.1 hX.2.1 hd hl hk hl0 (fun ls hl => kk H locs ls hP hS hl)
theorem G_lstore_n (hX : nr_Cx Γ ρ X y cc nL ret d) {k : Fin 4} {x : Int64} {lv' : List (Nat × Value)} (hd : decode cc pc = .ok (.lstore_n k, 1)) (hk : (k : Nat) + 1 < nL) (hl0 : nr_s2 lv (k : Nat) (.long x) = lv') (hn : pc + 1 = n) (kk : nr_G Γ ρ X nL Q n lv' st h t z g) : nr_G Γ ρ X nL Q pc lv (.long x :: st) h t z g := by
  subst hn; intro H locs ls hP hS hl; exact lv_lstore_n hX.1 hX.2.1 hd rfl hl hk hl0 (fun ls hl => kk H locs ls hP hS hl)
theorem G_iinc (hX : nr_Cx Γ ρ X y cc nL ret d) {i : Nat} {k : Int} {x v : Int32} {lv' : List (Nat × Value)} (hd : decode cc pc = .ok (.iinc i k, 3)) (hl0 : nr_lg lv i = some (.int x)) (hv : x + Int32.ofInt k = v) (hi : i < nL) (hl1 : nr_s1 lv i (.int v) = lv') (hn : pc + 3 = n) (kk : nr_G Γ ρ X nL Q n lv' st h t z g) : nr_G Γ ρ X nL Q pc lv st h t z g := by
  subst hn; intro H locs ls hP hS hl
  obtain ⟨j, hj⟩ := List.getElem?_of_mem (nr_lg_in hl0)
  exact lv_iinc hX.1 hX.2.1 hd hl hj hv hi hl1 (fun ls hl => kk H locs ls hP hS hl)
theorem G_iadd (hX : nr_Cx Γ ρ X y cc nL ret d) {a b : Int32} (hd : decode cc pc = .ok (.iadd, 1)) (hn : pc + 1 = n) (kk : nr_G Γ ρ X nL Q n lv (.int (a + b) :: st) h t z g) : nr_G Γ ρ X nL Q pc lv (.int b :: .int a :: st) h t z g := by
  subst hn; intro H locs ls hP hS hl; exact lv_iadd hX.1 hX.2.1 hd (kk H locs ls hP hS hl)
theorem G_isub (hX : nr_Cx Γ ρ X y cc nL ret d) {a b : Int32} (hd : decode cc pc = .ok (.isub, 1)) (hn : pc + 1 = n) (kk : nr_G Γ ρ X nL Q n lv (.int (a - b) :: st) h t z g) : nr_G Γ ρ X nL Q pc lv (.int b :: .int a :: st) h t z g := by
  subst hn; intro H locs ls hP hS hl; exact lv_isub hX.1 hX.2.1 hd (kk H locs ls hP hS hl)
theorem G_imul (hX : nr_Cx Γ ρ X y cc nL ret d) {a b : Int32} (hd : decode cc pc = .ok (.imul, 1)) (hn : pc + 1 = n) (kk : nr_G Γ ρ X nL Q n lv (.int (a * b) :: st) h t z g) : nr_G Γ ρ X nL Q pc lv (.int b :: .int a :: st) h t z g := by
  subst hn; intro H locs ls hP hS hl; exact lv_imul hX.1 hX.2.1 hd (kk H locs ls hP hS hl)
theorem G_iand (hX : nr_Cx Γ ρ X y cc nL ret d) {a b : Int32} (hd : decode cc pc = .ok (.iand, 1)) (hn : pc + 1 = n) (kk : nr_G Γ ρ X nL Q n lv (.int (a &&& b) :: st) h t z g) : nr_G Γ ρ X nL Q pc lv (.int b :: .int a :: st) h t z g := by
  subst hn; intro H locs ls hP hS hl; exact lv_iand hX.1 hX.2.1 hd (kk H locs ls hP hS hl)
theorem G_ior (hX : nr_Cx Γ ρ X y cc nL ret d) {a b : Int32} (hd : decode cc pc = .ok (.ior, 1)) (hn : pc + 1 = n) (kk : nr_G Γ ρ X nL Q n lv (.int (a ||| b) :: st) h t z g) : nr_G Γ ρ X nL Q pc lv (.int b :: .int a :: st) h t z g := by
  subst hn; intro H locs ls hP hS hl; exact lv_ior hX.1 hX.2.1 hd (kk H locs ls hP hS hl)
end

section
variable {Γ : nr_M} {ρ : Nat → Nat} {X : nr_CX} {y : MethodName} {cc : ByteArray} {nL : Nat} {ret : Option FieldType} {d : Nat} {Q : State → Prop} {pc n : Nat} {lv : List (Nat × Value)} {st : List Value} {h t : Nat} {z : Nat → Int32} {g : Nat → Nat → Int32}

theorem G_irem (hX : nr_Cx Γ ρ X y cc nL ret d) {a b : Int32} (hd : decode cc pc = .ok (.irem, 1)) (hne : ¬ b = 0) (hn : pc + 1 = n) (kk : nr_G Γ ρ X nL Q n lv (.int (a - a / b * b) :: st) h t z g) : nr_G Γ ρ X nL Q pc lv (.int b :: .int a :: st) h t z g := by
  subst hn; intro H locs ls hP hS hl; exact lv_irem hX.1 hX.2.1 hd hne (kk H locs ls hP hS hl)

theorem G_ishl (hX : nr_Cx Γ ρ X y cc nL ret d) {a b : Int32} (hd : decode cc pc = .ok (.ishl, 1))  (hn : pc + 1 = n) (kk : nr_G Γ ρ X nL Q n lv (.int (a <<< (b &&& 31)) :: st) h t z g) : nr_G Γ ρ X nL Q pc lv (.int b :: .int a :: st) h t z g := by
  subst hn; intro H locs ls hP hS hl; exact lv_ishl hX.1 hX.2.1 hd (kk H locs ls hP hS hl)

theorem G_ishr (hX : nr_Cx Γ ρ X y cc nL ret d) {a b : Int32} (hd : decode cc pc = .ok (.ishr, 1))  (hn : pc + 1 = n) (kk : nr_G Γ ρ X nL Q n lv (.int (a >>> (b &&& 31)) :: st) h t z g) : nr_G Γ ρ X nL Q pc lv (.int b :: .int a :: st) h t z g := by
  subst hn; intro H locs ls hP hS hl; exact lv_ishr hX.1 hX.2.1 hd (kk H locs ls hP hS hl)

theorem G_ladd (hX : nr_Cx Γ ρ X y cc nL ret d) {a b : Int64} (hd : decode cc pc = .ok (.ladd, 1))  (hn : pc + 1 = n) (kk : nr_G Γ ρ X nL Q n lv (.long (a + b) :: st) h t z g) : nr_G Γ ρ X nL Q pc lv (.long b :: .long a :: st) h t z g := by
  subst hn; intro H locs ls hP hS hl; exact lv_ladd hX.1 hX.2.1 hd (kk H locs ls hP hS hl)

theorem G_lmul (hX : nr_Cx Γ ρ X y cc nL ret d) {a b : Int64} (hd : decode cc pc = .ok (.lmul, 1))  (hn : pc + 1 = n) (kk : nr_G Γ ρ X nL Q n lv (.long (a * b) :: st) h t z g) : nr_G Γ ρ X nL Q pc lv (.long b :: .long a :: st) h t z g := by
  subst hn; intro H locs ls hP hS hl; exact lv_lmul hX.1 hX.2.1 hd (kk H locs ls hP hS hl)

theorem G_ldiv (hX : nr_Cx Γ ρ X y cc nL ret d) {a b : Int64} (hd : decode cc pc = .ok (.ldiv, 1)) (hne : ¬ b = 0) (hn : pc + 1 = n) (kk : nr_G Γ ρ X nL Q n lv (.long (a / b) :: st) h t z g) : nr_G Γ ρ X nL Q pc lv (.long b :: .long a :: st) h t z g := by
  subst hn; intro H locs ls hP hS hl; exact lv_ldiv hX.1 hX.2.1 hd hne (kk H locs ls hP hS hl)

theorem G_lrem (hX : nr_Cx Γ ρ X y cc nL ret d) {a b : Int64} (hd : decode cc pc = .ok (.lrem, 1)) (hne : ¬ b = 0) (hn : pc + 1 = n) (kk : nr_G Γ ρ X nL Q n lv (.long (a - a / b * b) :: st) h t z g) : nr_G Γ ρ X nL Q pc lv (.long b :: .long a :: st) h t z g := by
  subst hn; intro H locs ls hP hS hl; exact lv_lrem hX.1 hX.2.1 hd hne (kk H locs ls hP hS hl)

theorem G_i2l (hX : nr_Cx Γ ρ X y cc nL ret d) {a : Int32} (hd : decode cc pc = .ok (.i2l, 1))  (hn : pc + 1 = n) (kk : nr_G Γ ρ X nL Q n lv (.long a.toInt64 :: st) h t z g) : nr_G Γ ρ X nL Q pc lv (.int a :: st) h t z g := by
  subst hn; intro H locs ls hP hS hl; exact lv_i2l hX.1 hX.2.1 hd rfl (kk H locs ls hP hS hl)

theorem G_l2i (hX : nr_Cx Γ ρ X y cc nL ret d) {a : Int64} (hd : decode cc pc = .ok (.l2i, 1))  (hn : pc + 1 = n) (kk : nr_G Γ ρ X nL Q n lv (.int a.toInt32 :: st) h t z g) : nr_G Γ ρ X nL Q pc lv (.long a :: st) h t z g := by
  subst hn; intro H locs ls hP hS hl; exact lv_l2i hX.1 hX.2.1 hd rfl (kk H locs ls hP hS hl)

theorem G_lcmp (hX : nr_Cx Γ ρ X y cc nL ret d) {a b : Int64} (hd : decode cc pc = .ok (.lcmp, 1))  (hn : pc + 1 = n) (kk : nr_G Γ ρ X nL Q n lv (.int (lg_cmp a b) :: st) h t z g) : nr_G Γ ρ X nL Q pc lv (.long b :: .long a :: st) h t z g := by
  subst hn; intro H locs ls hP hS hl; exact W.lcmp hX.1 hX.2.1 hd (kk H locs ls hP hS hl)

theorem G_dup (hX : nr_Cx Γ ρ X y cc nL ret d) {v : Value} (hd : decode cc pc = .ok (.dup, 1)) (hv : v.category = 1) (hn : pc + 1 = n) (kk : nr_G Γ ρ X nL Q n lv (v :: v :: st) h t z g) : nr_G Γ ρ X nL Q pc lv (v :: st) h t z g := by
  subst hn; intro H locs ls hP hS hl; exact lv_dup hX.1 hX.2.1 hd hv (kk H locs ls hP hS hl)

theorem G_dup2 (hX : nr_Cx Γ ρ X y cc nL ret d) {v w : Value} (hd : decode cc pc = .ok (.dup2, 1)) (hv : v.category = 1) (hw : w.category = 1) (hn : pc + 1 = n) (kk : nr_G Γ ρ X nL Q n lv (v :: w :: v :: w :: st) h t z g) : nr_G Γ ρ X nL Q pc lv (v :: w :: st) h t z g := by
  subst hn; intro H locs ls hP hS hl; exact lv_dup2_11 hX.1 hX.2.1 hd hv hw (kk H locs ls hP hS hl)

theorem G_pop (hX : nr_Cx Γ ρ X y cc nL ret d) {v : Value} (hd : decode cc pc = .ok (.pop, 1)) (hv : v.category = 1) (hn : pc + 1 = n) (kk : nr_G Γ ρ X nL Q n lv (st) h t z g) : nr_G Γ ρ X nL Q pc lv (v :: st) h t z g := by
  subst hn; intro H locs ls hP hS hl; exact lv_pop hX.1 hX.2.1 hd hv (kk H locs ls hP hS hl)

theorem G_if_eq (hX : nr_Cx Γ ρ X y cc nL ret d) {a : Int32} {off : Int} {tg : Nat} (hd : decode cc pc = .ok (.ifCond .eq off, 3)) (ht : (pc : Int) + off = (tg : Int)) (hn : pc + 3 = n) (kt : a = 0 → nr_G Γ ρ X nL Q tg lv st h t z g) (kf : ¬ (a = 0) → nr_G Γ ρ X nL Q n lv st h t z g) : nr_G Γ ρ X nL Q pc lv (.int a :: st) h t z g := by
  subst hn; intro H locs ls hP hS hl; exact lv_if_eq hX.1 hX.2.1 hd ht (fun q => kt q H locs ls hP hS hl) (fun q => kf q H locs ls hP hS hl)

theorem G_icmp_eq (hX : nr_Cx Γ ρ X y cc nL ret d) {a b : Int32} {off : Int} {tg : Nat} (hd : decode cc pc = .ok (.if_icmp .eq off, 3)) (ht : (pc : Int) + off = (tg : Int)) (hn : pc + 3 = n) (kt : a = b → nr_G Γ ρ X nL Q tg lv st h t z g) (kf : ¬ (a = b) → nr_G Γ ρ X nL Q n lv st h t z g) : nr_G Γ ρ X nL Q pc lv (.int b :: .int a :: st) h t z g := by
  subst hn; intro H locs ls hP hS hl; exact lv_icmp_eq hX.1 hX.2.1 hd ht (fun q => kt q H locs ls hP hS hl) (fun q => kf q H locs ls hP hS hl)

theorem G_if_ne (hX : nr_Cx Γ ρ X y cc nL ret d) {a : Int32} {off : Int} {tg : Nat} (hd : decode cc pc = .ok (.ifCond .ne off, 3)) (ht : (pc : Int) + off = (tg : Int)) (hn : pc + 3 = n) (kt : ¬ (a = 0) → nr_G Γ ρ X nL Q tg lv st h t z g) (kf : a = 0 → nr_G Γ ρ X nL Q n lv st h t z g) : nr_G Γ ρ X nL Q pc lv (.int a :: st) h t z g := by
  subst hn; intro H locs ls hP hS hl; exact lv_if_ne hX.1 hX.2.1 hd ht (fun q => kt q H locs ls hP hS hl) (fun q => kf q H locs ls hP hS hl)

theorem G_icmp_ne (hX : nr_Cx Γ ρ X y cc nL ret d) {a b : Int32} {off : Int} {tg : Nat} (hd : decode cc pc = .ok (.if_icmp .ne off, 3)) (ht : (pc : Int) + off = (tg : Int)) (hn : pc + 3 = n) (kt : ¬ (a = b) → nr_G Γ ρ X nL Q tg lv st h t z g) (kf : a = b → nr_G Γ ρ X nL Q n lv st h t z g) : nr_G Γ ρ X nL Q pc lv (.int b :: .int a :: st) h t z g := by
  subst hn; intro H locs ls hP hS hl; exact lv_icmp_ne hX.1 hX.2.1 hd ht (fun q => kt q H locs ls hP hS hl) (fun q => kf q H locs ls hP hS hl)

theorem G_if_lt (hX : nr_Cx Γ ρ X y cc nL ret d) {a : Int32} {off : Int} {tg : Nat} (hd : decode cc pc = .ok (.ifCond .lt off, 3)) (ht : (pc : Int) + off = (tg : Int)) (hn : pc + 3 = n) (kt : a < 0 → nr_G Γ ρ X nL Q tg lv st h t z g) (kf : ¬ (a < 0) → nr_G Γ ρ X nL Q n lv st h t z g) : nr_G Γ ρ X nL Q pc lv (.int a :: st) h t z g := by
  subst hn; intro H locs ls hP hS hl; exact lv_if_lt hX.1 hX.2.1 hd ht (fun q => kt q H locs ls hP hS hl) (fun q => kf q H locs ls hP hS hl)

theorem G_icmp_lt (hX : nr_Cx Γ ρ X y cc nL ret d) {a b : Int32} {off : Int} {tg : Nat} (hd : decode cc pc = .ok (.if_icmp .lt off, 3)) (ht : (pc : Int) + off = (tg : Int)) (hn : pc + 3 = n) (kt : a < b → nr_G Γ ρ X nL Q tg lv st h t z g) (kf : ¬ (a < b) → nr_G Γ ρ X nL Q n lv st h t z g) : nr_G Γ ρ X nL Q pc lv (.int b :: .int a :: st) h t z g := by
  subst hn; intro H locs ls hP hS hl; exact lv_icmp_lt hX.1 hX.2.1 hd ht (fun q => kt q H locs ls hP hS hl) (fun q => kf q H locs ls hP hS hl)

theorem G_if_ge (hX : nr_Cx Γ ρ X y cc nL ret d) {a : Int32} {off : Int} {tg : Nat} (hd : decode cc pc = .ok (.ifCond .ge off, 3)) (ht : (pc : Int) + off = (tg : Int)) (hn : pc + 3 = n) (kt : 0 ≤ a → nr_G Γ ρ X nL Q tg lv st h t z g) (kf : ¬ (0 ≤ a) → nr_G Γ ρ X nL Q n lv st h t z g) : nr_G Γ ρ X nL Q pc lv (.int a :: st) h t z g := by
  subst hn; intro H locs ls hP hS hl; exact lv_if_ge hX.1 hX.2.1 hd ht (fun q => kt q H locs ls hP hS hl) (fun q => kf q H locs ls hP hS hl)

theorem G_icmp_ge (hX : nr_Cx Γ ρ X y cc nL ret d) {a b : Int32} {off : Int} {tg : Nat} (hd : decode cc pc = .ok (.if_icmp .ge off, 3)) (ht : (pc : Int) + off = (tg : Int)) (hn : pc + 3 = n) (kt : b ≤ a → nr_G Γ ρ X nL Q tg lv st h t z g) (kf : ¬ (b ≤ a) → nr_G Γ ρ X nL Q n lv st h t z g) : nr_G Γ ρ X nL Q pc lv (.int b :: .int a :: st) h t z g := by
  subst hn; intro H locs ls hP hS hl; exact lv_icmp_ge hX.1 hX.2.1 hd ht (fun q => kt q H locs ls hP hS hl) (fun q => kf q H locs ls hP hS hl)

theorem G_if_gt (hX : nr_Cx Γ ρ X y cc nL ret d) {a : Int32} {off : Int} {tg : Nat} (hd : decode cc pc = .ok (.ifCond .gt off, 3)) (ht : (pc : Int) + off = (tg : Int)) (hn : pc + 3 = n) (kt : 0 < a → nr_G Γ ρ X nL Q tg lv st h t z g) (kf : ¬ (0 < a) → nr_G Γ ρ X nL Q n lv st h t z g) : nr_G Γ ρ X nL Q pc lv (.int a :: st) h t z g := by
  subst hn; intro H locs ls hP hS hl; exact lv_if_gt hX.1 hX.2.1 hd ht (fun q => kt q H locs ls hP hS hl) (fun q => kf q H locs ls hP hS hl)

theorem G_icmp_gt (hX : nr_Cx Γ ρ X y cc nL ret d) {a b : Int32} {off : Int} {tg : Nat} (hd : decode cc pc = .ok (.if_icmp .gt off, 3)) (ht : (pc : Int) + off = (tg : Int)) (hn : pc + 3 = n) (kt : b < a → nr_G Γ ρ X nL Q tg lv st h t z g) (kf : ¬ (b < a) → nr_G Γ ρ X nL Q n lv st h t z g) : nr_G Γ ρ X nL Q pc lv (.int b :: .int a :: st) h t z g := by
  subst hn; intro H locs ls hP hS hl; exact lv_icmp_gt hX.1 hX.2.1 hd ht (fun q => kt q H locs ls hP hS hl) (fun q => kf q H locs ls hP hS hl)

theorem G_if_le (hX : nr_Cx Γ ρ X y cc nL ret d) {a : Int32} {off : Int} {tg : Nat} (hd : decode cc pc = .ok (.ifCond .le off, 3)) (ht : (pc : Int) + off = (tg : Int)) (hn : pc + 3 = n) (kt : a ≤ 0 → nr_G Γ ρ X nL Q tg lv st h t z g) (kf : ¬ (a ≤ 0) → nr_G Γ ρ X nL Q n lv st h t z g) : nr_G Γ ρ X nL Q pc lv (.int a :: st) h t z g := by
  subst hn; intro H locs ls hP hS hl; exact lv_if_le hX.1 hX.2.1 hd ht (fun q => kt q H locs ls hP hS hl) (fun q => kf q H locs ls hP hS hl)

theorem G_icmp_le (hX : nr_Cx Γ ρ X y cc nL ret d) {a b : Int32} {off : Int} {tg : Nat} (hd : decode cc pc = .ok (.if_icmp .le off, 3)) (ht : (pc : Int) + off = (tg : Int)) (hn : pc + 3 = n) (kt : a ≤ b → nr_G Γ ρ X nL Q tg lv st h t z g) (kf : ¬ (a ≤ b) → nr_G Γ ρ X nL Q n lv st h t z g) : nr_G Γ ρ X nL Q pc lv (.int b :: .int a :: st) h t z g := by
  subst hn; intro H locs ls hP hS hl; exact lv_icmp_le hX.1 hX.2.1 hd ht (fun q => kt q H locs ls hP hS hl) (fun q => kf q H locs ls hP hS hl)

theorem G_goto (hX : nr_Cx Γ ρ X y cc nL ret d) {off : Int} {tg : Nat} (hd : decode cc pc = .ok (.goto off, 3)) (ht : (pc : Int) + off = (tg : Int)) (kk : nr_G Γ ρ X nL Q tg lv st h t z g) : nr_G Γ ρ X nL Q pc lv st h t z g := by
  intro H locs ls hP hS hl; exact lv_goto hX.1 hX.2.1 hd ht (kk H locs ls hP hS hl)

theorem G_lookup (hX : nr_Cx Γ ρ X y cc nL ret d) {dflt : Int} {ps : Array (Int × Int)} {len : Nat} {a : Int32} {off : Int} {tg : Nat} (hd : decode cc pc = .ok (.lookupswitch dflt ps, len)) (hp : (ps.toList.zip (ps.toList.drop 1)).all (fun (a, next) => a.1 < next.1) = true) (ho : Op.lookupswitch.offset ps.toList dflt a.toInt = off) (ht : (pc : Int) + off = (tg : Int)) (kk : nr_G Γ ρ X nL Q tg lv st h t z g) : nr_G Γ ρ X nL Q pc lv (.int a :: st) h t z g := by
  intro H locs ls hP hS hl; exact lv_lookup hX.1 hX.2.1 hd hp ho ht (kk H locs ls hP hS hl)
theorem G_tabOut (hX : nr_Cx Γ ρ X y cc nL ret d) {dflt lo hi : Int} {offs : Array Int} {len : Nat} {a : Int32} {tg : Nat} (hd : decode cc pc = .ok (.tableswitch dflt lo hi offs, len)) (ha : a.toInt < lo ∨ hi < a.toInt) (ht : (pc : Int) + dflt = (tg : Int)) (kk : nr_G Γ ρ X nL Q tg lv st h t z g) : nr_G Γ ρ X nL Q pc lv (.int a :: st) h t z g := by
  intro H locs ls hP hS hl; exact lv_tableOut hX.1 hX.2.1 hd ha ht (kk H locs ls hP hS hl)
theorem G_tabIn (hX : nr_Cx Γ ρ X y cc nL ret d) {dflt lo hi : Int} {offs : Array Int} {len : Nat} {a : Int32} {off : Int} {tg : Nat} (hd : decode cc pc = .ok (.tableswitch dflt lo hi offs, len)) (h1 : ¬ a.toInt < lo) (h2 : ¬ hi < a.toInt) (ho : offs[(a.toInt - lo).toNat]? = some off) (ht : (pc : Int) + off = (tg : Int)) (kk : nr_G Γ ρ X nL Q tg lv st h t z g) : nr_G Γ ρ X nL Q pc lv (.int a :: st) h t z g := by
  intro H locs ls hP hS hl; exact lv_tableIn hX.1 hX.2.1 hd h1 h2 ho ht (kk H locs ls hP hS hl)

/-- a field's link: own class's pool place idx names field j of class ci -/
def nr_FL (own : String) (idx ci j : Nat) : Prop := ∃ (C : String) (T : u_T) (N : Nat), vwCl[ci]? = some (C, T, N) ∧ (∀ w ∈ u_ws C T N, w ∈ nr_tb) ∧ j < N ∧ (Cond.fieldLink own idx (T j).1 (T j).2.1 (T j).2.2.1 ∈ nr_tb ∨ ∃ host, Cond.fieldLinkNest own idx (T j).1 (T j).2.1 (T j).2.2.1 host ∈ nr_tb)
def nr_GT (own : String) (idx k : Nat) (F : (Nat → Nat) → Nat → Nat → (Nat → Int32) → Value) : Prop := k < 36 ∧ ∃ (ci j : Nat), nr_FL own idx ci j ∧ ∀ (Γ : nr_M) (ρ : Nat → Nat) (h t : Nat) (z : Nat → Int32) (g : Nat → Nat → Int32), ∃ fs : List Value, nr_hp Γ ρ h t z g k = .inr (ci, fs) ∧ fs[j]? = some (F ρ h t z)
theorem G_getF (hX : nr_Cx Γ ρ X y cc nL ret d) {idx k : Nat} {F : (Nat → Nat) → Nat → Nat → (Nat → Int32) → Value} (hd : decode cc pc = .ok (.getfield idx, 3)) (hT : nr_GT y.cls idx k F) (hn : pc + 3 = n) (kk : nr_G Γ ρ X nL Q n lv (F ρ h t z :: st) h t z g) : nr_G Γ ρ X nL Q pc lv (.ref (ρ k) :: st) h t z g := by
  subst hn; intro H locs ls hP hS hl
  obtain ⟨hk, ci, j, ⟨C, T, N, hc, hin, hj, hlk⟩, hF⟩ := hT
  obtain ⟨fs, he, hv⟩ := hF Γ ρ h t z g
  have hws := nr_ws_get (Γ := Γ) (ρ := ρ) (h := h) (t := t) (z := z) (g := g) hk
  rw [he] at hws
  rcases hlk with hlk | ⟨host, hlk⟩
  · exact va_get hX.1 hX.2.1 hX.2.2.2.2.1 hin hX.2.2.2.1 hX.2.2.2.2.2.1 hP k hws hc j hj (hX.2.2.2.2.1 _ hlk) (fun _ q => q) hv hd (kk H locs ls hP hS hl)
  · exact va_getN hX.1 hX.2.1 hX.2.2.2.2.1 hin hX.2.2.2.1 hX.2.2.2.2.2.1 hP k hws hc j hj (hX.2.2.2.2.1 _ hlk) (fun _ q => q) hv hd (kk H locs ls hP hS hl)

theorem G_geti (hX : nr_Cx Γ ρ X y cc nL ret d) {idx k i : Nat} (hd : decode cc pc = .ok (.getfield idx, 3)) (hT : nr_GT y.cls idx k (fun _ _ _ z => .int (z i))) (hn : pc + 3 = n) (kk : nr_G Γ ρ X nL Q n lv (.int (z i) :: st) h t z g) : nr_G Γ ρ X nL Q pc lv (.ref (ρ k) :: st) h t z g := G_getF hX hd hT hn kk

theorem G_getr (hX : nr_Cx Γ ρ X y cc nL ret d) {idx k i : Nat} (hd : decode cc pc = .ok (.getfield idx, 3)) (hT : nr_GT y.cls idx k (fun ρ _ _ _ => .ref (ρ i))) (hn : pc + 3 = n) (kk : nr_G Γ ρ X nL Q n lv (.ref (ρ i) :: st) h t z g) : nr_G Γ ρ X nL Q pc lv (.ref (ρ k) :: st) h t z g := G_getF hX hd hT hn kk

theorem G_geth (hX : nr_Cx Γ ρ X y cc nL ret d) {idx k : Nat} (hd : decode cc pc = .ok (.getfield idx, 3)) (hT : nr_GT y.cls idx k (fun ρ h _ _ => .ref (ρ h))) (hn : pc + 3 = n) (kk : nr_G Γ ρ X nL Q n lv (.ref (ρ h) :: st) h t z g) : nr_G Γ ρ X nL Q pc lv (.ref (ρ k) :: st) h t z g := G_getF hX hd hT hn kk

theorem G_gett (hX : nr_Cx Γ ρ X y cc nL ret d) {idx k : Nat} (hd : decode cc pc = .ok (.getfield idx, 3)) (hT : nr_GT y.cls idx k (fun ρ _ t _ => .ref (ρ t))) (hn : pc + 3 = n) (kk : nr_G Γ ρ X nL Q n lv (.ref (ρ t) :: st) h t z g) : nr_G Γ ρ X nL Q pc lv (.ref (ρ k) :: st) h t z g := G_getF hX hd hT hn kk

def nr_FP (own : String) (idx ci j : Nat) (ty : FieldType) : Prop := ∃ (C : String) (T : u_T) (N : Nat) (ty0 : Nat → FieldType), vwCl[ci]? = some (C, T, N) ∧ (∀ w ∈ u_ws C T N, w ∈ nr_tb) ∧ (∀ k, k < N → parseFieldDescriptor (T k).2.2.1 = some (ty0 k)) ∧ (∀ a, a < N → ∀ b, b < N → a ≠ b → (T a).2.1 ≠ (T b).2.1) ∧ j < N ∧ Cond.fieldLink own idx (T j).1 (T j).2.1 (T j).2.2.1 ∈ nr_tb ∧ (T j).2.2.2 = false ∧ parseFieldDescriptor (T j).2.2.1 = some ty
/-- scalar i is field j of object k -/
def nr_PT (own : String) (idx k i : Nat) (ty : FieldType) : Prop := k < 36 ∧ ∃ (ci j : Nat), nr_FP own idx ci j ty ∧ ∀ (Γ : nr_M) (ρ : Nat → Nat) (h t : Nat) (z : Nat → Int32) (g : Nat → Nat → Int32), ∃ fs : List Value, nr_hp Γ ρ h t z g k = .inr (ci, fs) ∧ j < fs.length ∧ ∀ (v : Int32) (q : Nat), q < 36 → va_up (nr_hp Γ ρ h t z g) k (.inr (ci, fs.set j (.int v))) q = nr_hp Γ ρ h t (va_up z i v) g q
theorem G_put (hX : nr_Cx Γ ρ X y cc nL ret d) {idx k i : Nat} {v : Int32} {ty : FieldType} (hd : decode cc pc = .ok (.putfield idx, 3)) (hT : nr_PT y.cls idx k i ty) (hna : narrow ty (.int v) = .int v) (hfi : fits ty (.int v) = true) (hn : pc + 3 = n) (kk : nr_G Γ ρ X nL Q n lv st h t (va_up z i v) g) : nr_G Γ ρ X nL Q pc lv (.int v :: .ref (ρ k) :: st) h t z g := by
  subst hn; intro H locs ls hP hS hl
  obtain ⟨hk, ci, j, ⟨C, T, N, ty0, hc, hin, hty, hnm, hj, hlk, hfin, hpd⟩, hF⟩ := hT
  obtain ⟨fs, he, hjl, hset⟩ := hF Γ ρ h t z g
  have hws := nr_ws_get (Γ := Γ) (ρ := ρ) (h := h) (t := t) (z := z) (g := g) hk
  rw [he] at hws
  refine va_put hX.1 hX.2.1 hX.2.2.2.2.1 hin ty0 hty hnm hX.2.2.2.1 hX.2.2.2.2.2.1 hP (nr_D hX.2.2.2.2.2.2.1) hS k hws hc j hj (hX.2.2.2.2.1 _ hlk) (fun _ q => q) hfin hpd hna hfi hjl hd (fun H1 locs1 hP1 _ hS1 => ?_)
  rw [nr_ws_set (hset v)] at hP1
  exact kk H1 locs1 ls hP1 hS1 hl
/-- the porter's house and tale -/
def nr_PR (own : String) (idx : Nat) (ty : FieldType) (j : Nat) : Prop := nr_FP own idx 2 j ty
theorem G_puth (hX : nr_Cx Γ ρ X y cc nL ret d) {idx b : Nat} {ty : FieldType} (hd : decode cc pc = .ok (.putfield idx, 3)) (hT : nr_FP y.cls idx 2 1 ty) (hna : narrow ty (.ref (ρ b)) = .ref (ρ b)) (hfi : fits ty (.ref (ρ b)) = true) (hn : pc + 3 = n) (kk : nr_G Γ ρ X nL Q n lv st b t z g) : nr_G Γ ρ X nL Q pc lv (.ref (ρ b) :: .ref (ρ 19) :: st) h t z g := by
  subst hn; intro H locs ls hP hS hl
  obtain ⟨C, T, N, ty0, hc, hin, hty, hnm, hj, hlk, hfin, hpd⟩ := hT
  have hws := nr_ws_get (Γ := Γ) (ρ := ρ) (h := h) (t := t) (z := z) (g := g) (k := 19) (by decide)
  refine va_put hX.1 hX.2.1 hX.2.2.2.2.1 hin ty0 hty hnm hX.2.2.2.1 hX.2.2.2.2.2.1 hP (nr_D hX.2.2.2.2.2.2.1) hS 19 hws hc 1 hj (hX.2.2.2.2.1 _ hlk) (fun _ q => q) hfin hpd hna hfi (Nat.le_of_ble_eq_true rfl) hd (fun H1 locs1 hP1 _ hS1 => ?_)
  rw [nr_ws_set (h' := b) (t' := t) (z' := z) (g' := g) (fun q hq => by
    by_cases hq9 : q = 19
    · subst hq9; simp [va_up, nr_hp]
    · simp only [va_up, if_neg hq9]; unfold nr_hp; split <;> first | rfl | contradiction)] at hP1
  exact kk H1 locs1 ls hP1 hS1 hl
theorem G_putt (hX : nr_Cx Γ ρ X y cc nL ret d) {idx b : Nat} {ty : FieldType} (hd : decode cc pc = .ok (.putfield idx, 3)) (hT : nr_FP y.cls idx 2 2 ty) (hna : narrow ty (.ref (ρ b)) = .ref (ρ b)) (hfi : fits ty (.ref (ρ b)) = true) (hn : pc + 3 = n) (kk : nr_G Γ ρ X nL Q n lv st h b z g) : nr_G Γ ρ X nL Q pc lv (.ref (ρ b) :: .ref (ρ 19) :: st) h t z g := by
  subst hn; intro H locs ls hP hS hl
  obtain ⟨C, T, N, ty0, hc, hin, hty, hnm, hj, hlk, hfin, hpd⟩ := hT
  have hws := nr_ws_get (Γ := Γ) (ρ := ρ) (h := h) (t := t) (z := z) (g := g) (k := 19) (by decide)
  refine va_put hX.1 hX.2.1 hX.2.2.2.2.1 hin ty0 hty hnm hX.2.2.2.1 hX.2.2.2.2.2.1 hP (nr_D hX.2.2.2.2.2.2.1) hS 19 hws hc 2 hj (hX.2.2.2.2.1 _ hlk) (fun _ q => q) hfin hpd hna hfi (Nat.le_of_ble_eq_true rfl) hd (fun H1 locs1 hP1 _ hS1 => ?_)
  rw [nr_ws_set (h' := h) (t' := b) (z' := z) (g' := g) (fun q hq => by
    by_cases hq9 : q = 19
    · subst hq9; simp [va_up, nr_hp]
    · simp only [va_up, if_neg hq9]; unfold nr_hp; split <;> first | rfl | contradiction)] at hP1
  exact kk H1 locs1 ls hP1 hS1 hl

theorem nr_il_hp {k N : Nat} (hk : nr_il k = N) (h0 : 0 < N) : k < 36 ∧ (∀ (Γ : nr_M) (ρ : Nat → Nat) (h t : Nat) (z : Nat → Int32) (g : Nat → Nat → Int32), nr_hp Γ ρ h t z g k = .inl (Γ.2.2.2.1, N, .inl (g k))) := by
  unfold nr_il at hk
  split at hk <;> first | (subst hk; exact ⟨by decide, fun _ _ _ _ _ _ => rfl⟩) | omega

theorem nr_up_arr {k N : Nat} (hk : nr_il k = N) (h0 : 0 < N) (f : Nat → Int32) (q : Nat) : va_up (nr_hp Γ ρ h t z g) k (.inl (Γ.2.2.2.1, N, .inl f)) q = nr_hp Γ ρ h t z (va_up g k f) q := by
  by_cases hq : q = k
  · subst hq
    rw [(nr_il_hp hk h0).2]
    simp [va_up]
  · simp only [va_up, if_neg hq]
    unfold nr_hp
    split <;> first | rfl | (simp [hq]; done) | (simp only [va_up]; rw [if_neg hq])
theorem nr_up_z (f : Nat → Int32) (q : Nat) : va_up (nr_hp Γ ρ h t z g) 32 (.inl (Γ.2.2.2.2, 9, .inl f)) q = nr_hp Γ ρ h t z (va_up g 32 f) q := by
  by_cases hq : q = 32
  · subst hq
    simp [va_up, nr_hp]
  · simp only [va_up, if_neg hq]
    unfold nr_hp
    split <;> first | rfl | (exact absurd rfl hq) | (simp [hq]; done)
theorem G_iald (hX : nr_Cx Γ ρ X y cc nL ret d) {k N : Nat} {i : Int32} (hd : decode cc pc = .ok (.iaload, 1)) (hk : nr_il k = N) (h0 : 0 < N) (hin : vp_in i N) (hn : pc + 1 = n) (kk : nr_G Γ ρ X nL Q n lv (.int (g k i.toNatClampNeg) :: st) h t z g) : nr_G Γ ρ X nL Q pc lv (.int i :: .ref (ρ k) :: st) h t z g := by
  subst hn; intro H locs ls hP hS hl
  obtain ⟨hk6, he⟩ := nr_il_hp hk h0
  have hws := nr_ws_get (Γ := Γ) (ρ := ρ) (h := h) (t := t) (z := z) (g := g) hk6
  rw [he] at hws
  exact va_iald hX.1 hX.2.1 hX.2.2.2.2.2.1 hP k 0 hws rfl hin hd (kk H locs ls hP hS hl)
theorem G_iast (hX : nr_Cx Γ ρ X y cc nL ret d) {k N : Nat} {i x : Int32} (hd : decode cc pc = .ok (.iastore, 1)) (hk : nr_il k = N) (h0 : 0 < N) (hin : vp_in i N) (hn : pc + 1 = n) (kk : nr_G Γ ρ X nL Q n lv st h t z (va_up g k (upd (g k) i.toNatClampNeg x))) : nr_G Γ ρ X nL Q pc lv (.int x :: .int i :: .ref (ρ k) :: st) h t z g := by
  subst hn; intro H locs ls hP hS hl
  obtain ⟨hk6, he⟩ := nr_il_hp hk h0
  have hws := nr_ws_get (Γ := Γ) (ρ := ρ) (h := h) (t := t) (z := z) (g := g) hk6
  rw [he] at hws
  refine va_iast hX.1 hX.2.1 hX.2.2.2.2.2.1 hP (nr_D hX.2.2.2.2.2.2.1) hS k 0 hws rfl hin hd (fun H1 locs1 hP1 _ hS1 => ?_)
  rw [nr_ws_set (fun q _ => nr_up_arr hk h0 _ q)] at hP1
  exact kk H1 locs1 ls hP1 hS1 hl
theorem G_zald (hX : nr_Cx Γ ρ X y cc nL ret d) {i : Int32} (hd : decode cc pc = .ok (.baload, 1)) (hin : vp_in i 9) (hn : pc + 1 = n) (kk : nr_G Γ ρ X nL Q n lv (.int (g 32 i.toNatClampNeg) :: st) h t z g) : nr_G Γ ρ X nL Q pc lv (.int i :: .ref (ρ 32) :: st) h t z g := by
  subst hn; intro H locs ls hP hS hl
  have hws := nr_ws_get (Γ := Γ) (ρ := ρ) (h := h) (t := t) (z := z) (g := g) (k := 32) (by decide)
  exact va_zald hX.1 hX.2.1 hX.2.2.2.2.2.1 hP 32 1 hws rfl hin hd (kk H locs ls hP hS hl)
theorem G_zast (hX : nr_Cx Γ ρ X y cc nL ret d) {i x : Int32} (hd : decode cc pc = .ok (.bastore, 1)) (hin : vp_in i 9) (hna : vp_nar .boolean x = x) (hn : pc + 1 = n) (kk : nr_G Γ ρ X nL Q n lv st h t z (va_up g 32 (upd (g 32) i.toNatClampNeg x))) : nr_G Γ ρ X nL Q pc lv (.int x :: .int i :: .ref (ρ 32) :: st) h t z g := by
  subst hn; intro H locs ls hP hS hl
  have hws := nr_ws_get (Γ := Γ) (ρ := ρ) (h := h) (t := t) (z := z) (g := g) (k := 32) (by decide)
  refine va_zast hX.1 hX.2.1 hX.2.2.2.2.2.1 hP (nr_D hX.2.2.2.2.2.2.1) hS 32 1 hws rfl hin hd (fun H1 locs1 hP1 _ hS1 => ?_)
  rw [hna, nr_ws_set (fun q _ => nr_up_z _ q)] at hP1
  exact kk H1 locs1 ls hP1 hS1 hl
theorem G_alen (hX : nr_Cx Γ ρ X y cc nL ret d) {k N : Nat} {v : Int32} (hd : decode cc pc = .ok (.arraylength, 1)) (hk : nr_il k = N) (h0 : 0 < N) (hv : Int32.ofNat N = v) (hn : pc + 1 = n) (kk : nr_G Γ ρ X nL Q n lv (.int v :: st) h t z g) : nr_G Γ ρ X nL Q pc lv (.ref (ρ k) :: st) h t z g := by
  subst hn; intro H locs ls hP hS hl
  obtain ⟨hk6, he⟩ := nr_il_hp hk h0
  have hws := nr_ws_get (Γ := Γ) (ρ := ρ) (h := h) (t := t) (z := z) (g := g) hk6
  rw [he] at hws
  exact va_alen hX.1 hX.2.1 hX.2.2.2.2.2.1 hP k 0 hws rfl hv hd (kk H locs ls hP hS hl)
theorem G_gets (hX : nr_Cx Γ ρ X y cc nL ret d) {k idx : Nat} (hd : decode cc pc = .ok (.getstatic idx, 3)) (h1 : 40 ≤ k) (h2 : k < 43) (hlk : Cond.fieldLink y.cls idx "NightRounds" (nr_sN k) "[I" ∈ nr_tb) (hn : pc + 3 = n) (kk : nr_G Γ ρ X nL Q n lv (.ref (ρ k) :: st) h t z g) : nr_G Γ ρ X nL Q pc lv st h t z g := by
  subst hn; intro H locs ls hP hS hl
  exact va_gets hX.1 hX.2.1 (hX.2.2.2.2.2.2.2.1 k h1 h2).1 hS hX.2.2.2.1 (hX.2.2.2.2.1 _ hlk) (fun _ q => q) hd (kk H locs ls hP hS hl)
theorem G_sald (hX : nr_Cx Γ ρ X y cc nL ret d) {k : Nat} {i : Int32} (hd : decode cc pc = .ok (.iaload, 1)) (h1 : 40 ≤ k) (h2 : k < 43) (hin : vp_in i (nr_sn k)) (hn : pc + 1 = n) (kk : nr_G Γ ρ X nL Q n lv (.int (nr_sf k i.toNatClampNeg) :: st) h t z g) : nr_G Γ ρ X nL Q pc lv (.int i :: .ref (ρ k) :: st) h t z g := by
  subst hn; intro H locs ls hP hS hl
  exact va_ti hX.1 hX.2.1 (hX.2.2.2.2.2.2.2.1 k h1 h2).2 hS hin rfl hd (kk H locs ls hP hS hl)
theorem G_slen (hX : nr_Cx Γ ρ X y cc nL ret d) {k : Nat} (hd : decode cc pc = .ok (.arraylength, 1)) (h1 : 40 ≤ k) (h2 : k < 43) (hn : pc + 1 = n) (kk : nr_G Γ ρ X nL Q n lv (.int (Int32.ofNat (nr_sn k)) :: st) h t z g) : nr_G Γ ρ X nL Q pc lv (.ref (ρ k) :: st) h t z g := by
  subst hn; intro H locs ls hP hS hl
  exact va_tlen hX.1 hX.2.1 (hX.2.2.2.2.2.2.2.1 k h1 h2).2 hS rfl hd (kk H locs ls hP hS hl)

def nr_isC (k ci : Nat) : Prop := k < 36 ∧ ∀ (Γ : nr_M) (ρ : Nat → Nat) (h t : Nat) (z : Nat → Int32) (g : Nat → Nat → Int32), ∃ fs : List Value, nr_hp Γ ρ h t z g k = .inr (ci, fs)
def nr_ML (y' : MethodName) (cc' : ByteArray) (nL' : Nat) (ret' : Option FieldType) (na : Nat) : Prop := Cond.code y' cc' nL' ret' ∈ nr_tb ∧ Cond.initialized y'.cls ∈ nr_tb ∧ (y'.cls ≠ "java/lang/invoke/MethodHandle" ∧ y'.cls ≠ "java/lang/invoke/VarHandle") ∧ (parseMethodDescriptor y'.desc).map (fun d => d.parameters.length) = some na ∧ nL' ≤ 60
def nr_LV (own : String) (idx ci : Nat) (y' : MethodName) (cc' : ByteArray) (nL' : Nat) (ret' : Option FieldType) (na : Nat) : Prop := Cond.methodLink own idx y' ∈ nr_tb ∧ Cond.instanceMethod y' ∈ nr_tb ∧ Cond.selects y'.cls y' y' ∈ nr_tb ∧ nr_ML y' cc' nL' ret' na ∧ ∃ (T : u_T) (N : Nat), vwCl[ci]? = some (y'.cls, T, N)
def nr_LS (own : String) (idx : Nat) (y' : MethodName) (cc' : ByteArray) (nL' : Nat) (ret' : Option FieldType) (na : Nat) : Prop := (Cond.methodLink own idx y' ∈ nr_tb ∨ ∃ host, Cond.methodLinkNest own idx y' host ∈ nr_tb) ∧ Cond.static y' ∈ nr_tb ∧ nr_ML y' cc' nL' ret' na
theorem nr_tb_warm {args a' : Array Value} {s U : State} (hts : ∀ w ∈ nr_tb, w.before args s = true) (hW : s.WarmedH U.vm) : ∀ w ∈ nr_tb, w.before a' U = true := fun w hw => nr_warm hW (List.mem_filter.mp hw).2 (hts w hw)
theorem nr_desc {y' : MethodName} {na : Nat} (hq : (parseMethodDescriptor y'.desc).map (fun d => d.parameters.length) = some na) : ∀ sig, parseMethodDescriptor y'.desc = some sig → na = sig.parameters.length := by
  intro sig hs
  rw [hs] at hq
  exact (Option.some.inj hq).symm
theorem nr_CallB (hX : nr_Cx Γ ρ X y cc nL ret d) {idx : Nat} {y' : MethodName} {cc' : ByteArray} {nL' na d' : Nat} {ret' : Option FieldType} (hl : Cond.methodLink y.cls idx y' ∈ nr_tb) (hM : nr_ML y' cc' nL' ret' na) (hdd : d' + 1 ≤ d) : CallB X.2.2.1 X.2.2.2.1 X.2.2.2.2.2.1 y.cls idx y' cc' nL' ret' (nr_wm y' cc' nL' ret') (nr_rm d') 0 0 na := by
  obtain ⟨hx, hb, hml, hown, hts, hK, hI, hst, hR, hC, hret, hlk⟩ := hX
  obtain ⟨m1, m2, m3, m4, m5⟩ := hM
  refine ⟨rfl, rfl, ?_, ?_, ?_, List.mem_cons_self, hts _ m1, hts _ m2, m3, nr_desc m4, hts _ hl⟩
  · exact Nat.le_trans hdd hR.1
  · have := hR.2
    simp only [nr_rm]
    omega
  · intro w hw a' U hW
    rcases List.mem_cons.mp hw with rfl | hw
    · exact nr_tb_warm hts hW _ m1
    · exact nr_tb_warm hts hW _ hw
theorem nr_CN (hX : nr_Cx Γ ρ X y cc nL ret d) {idx : Nat} {host : String} {y' : MethodName} {cc' : ByteArray} {nL' na d' : Nat} {ret' : Option FieldType} (hl : Cond.methodLinkNest y.cls idx y' host ∈ nr_tb) (hM : nr_ML y' cc' nL' ret' na) (hdd : d' + 1 ≤ d) : va_CN X.2.2.1 X.2.2.2.1 X.2.2.2.2.2.1 y.cls idx y' host cc' nL' ret' (nr_wm y' cc' nL' ret') (nr_rm d') 0 0 na := by
  obtain ⟨hx, hb, hml, hown, hts, hK, hI, hst, hR, hC, hret, hlk⟩ := hX
  obtain ⟨m1, m2, m3, m4, m5⟩ := hM
  refine ⟨⟨rfl, rfl, ?_, ?_, ?_, List.mem_cons_self⟩, hts _ m1, hts _ m2, m3, nr_desc m4, hts _ hl⟩
  · exact Nat.le_trans hdd hR.1
  · have := hR.2
    simp only [nr_rm]
    omega
  · intro w hw a' U hW
    rcases List.mem_cons.mp hw with rfl | hw
    · exact nr_tb_warm hts hW _ m1
    · exact nr_tb_warm hts hW _ hw
theorem nr_runV (hX : nr_Cx Γ ρ X y cc nL ret d) {idx ci k : Nat} {y' : MethodName} {cc' : ByteArray} {nL' na d' : Nat} {ret' : Option FieldType} {As st0 : List Value} {Qc : Array Value → State → Outcome → State → Prop} (hd : decode cc pc = .ok (.invokevirtual idx, 3)) (hL : nr_LV y.cls idx ci y' cc' nL' ret' na) (hM : Met Γ.1 y' (nr_wm y' cc' nL' ret') (nr_rm d') (va_Pc (.ref (ρ k) :: As) (nr_PW Γ ρ h t z g)) Qc 0 0 (nr_A ρ)) (hdd : d' + 1 ≤ d) (hk : nr_isC k ci) (hlen : As.length = na) (hst0 : st0 = As.reverse ++ .ref (ρ k) :: st) (hw : (st.map fun v => v.category).sum ≤ 8)
    {H : Heap} {locs : List Loc} {ls : Array Slot} (hP : va_P (Γ.2.1, Γ.2.2.1) vwCl (nr_ws Γ ρ h t z g) H) (hS : va_S (nr_A ρ) X.2.2.2.1.heap H locs) (hl : lv_has ls nL lv) :
    va_Run X.1 Γ.1 X.2.1 X.2.2.1 X.2.2.2.1 X.2.2.2.2.1 X.2.2.2.2.2.1 X.2.2.2.2.2.2.1 X.2.2.2.2.2.2.2.1 X.2.2.2.2.2.2.2.2.1 H locs X.2.2.2.2.2.2.2.2.2.1 X.2.2.2.2.2.2.2.2.2.2 0 0 (F0 X.2.2.2.2.1 pc ls st0) st (Qc (Value.ref (ρ k) :: As).toArray) (nr_A ρ) := by
  obtain ⟨l1, l2, l3, l4, T, N, l5⟩ := hL
  obtain ⟨hk6, hkf⟩ := hk
  obtain ⟨fs, he⟩ := hkf Γ ρ h t z g
  have hws := nr_ws_get (Γ := Γ) (ρ := ρ) (h := h) (t := t) (z := z) (g := g) hk6
  rw [he] at hws
  have hts := hX.2.2.2.2.1
  exact va_runV (C := y'.cls) (As := As) (rest := st) ⟨hX.1, hX.2.1, hX.2.2.1, hX.2.2.2.1, hts⟩ hM ⟨nr_CallB hX l1 l4 hdd, hts _ l2, hts _ l3⟩ ⟨nr_blind, va_recv (q := (y'.cls, T, N)) hX.2.2.2.2.2.1 hP l5 hws, fun U hU hW => ⟨rfl, nr_PW_of hX hP hS hU hW.alike⟩⟩ rfl hlen hl.1 hst0 (lv_room hw) hd hX.2.2.2.2.2.2.2.2.2.1
theorem nr_runS (hX : nr_Cx Γ ρ X y cc nL ret d) {idx : Nat} {y' : MethodName} {cc' : ByteArray} {nL' na d' : Nat} {ret' : Option FieldType} {As st0 : List Value} {Qc : Array Value → State → Outcome → State → Prop} (hd : decode cc pc = .ok (.invokestatic idx, 3)) (hL : nr_LS y.cls idx y' cc' nL' ret' na) (hM : Met Γ.1 y' (nr_wm y' cc' nL' ret') (nr_rm d') (va_Pc As (nr_PW Γ ρ h t z g)) Qc 0 0 (nr_A ρ)) (hdd : d' + 1 ≤ d) (hlen : As.length = na) (hst0 : st0 = As.reverse ++ st) (hw : (st.map fun v => v.category).sum ≤ 8)
    {H : Heap} {locs : List Loc} {ls : Array Slot} (hP : va_P (Γ.2.1, Γ.2.2.1) vwCl (nr_ws Γ ρ h t z g) H) (hS : va_S (nr_A ρ) X.2.2.2.1.heap H locs) (hl : lv_has ls nL lv) :
    va_Run X.1 Γ.1 X.2.1 X.2.2.1 X.2.2.2.1 X.2.2.2.2.1 X.2.2.2.2.2.1 X.2.2.2.2.2.2.1 X.2.2.2.2.2.2.2.1 X.2.2.2.2.2.2.2.2.1 H locs X.2.2.2.2.2.2.2.2.2.1 X.2.2.2.2.2.2.2.2.2.2 0 0 (F0 X.2.2.2.2.1 pc ls st0) st (Qc As.toArray) (nr_A ρ) := by
  obtain ⟨l1, l2, l4⟩ := hL
  have hts := hX.2.2.2.2.1
  rcases l1 with l1 | ⟨host, l1⟩
  · exact va_runS (As := As) (rest := st) ⟨hX.1, hX.2.1, hX.2.2.1, hX.2.2.2.1, hts⟩ hM ⟨nr_CallB hX l1 l4 hdd, hts _ l2⟩ ⟨nr_blind, fun U hU hW => ⟨rfl, nr_PW_of hX hP hS hU hW.alike⟩⟩ rfl hlen hl.1 hst0 (lv_room hw) hd hX.2.2.2.2.2.2.2.2.2.1
  · exact va_runSN (As := As) (rest := st) ⟨hX.1, hX.2.1, hX.2.2.1, hX.2.2.2.1, hts⟩ hM ⟨nr_CN hX l1 l4 hdd, hts _ l2, trivial⟩ ⟨nr_blind, fun U hU hW => ⟨rfl, nr_PW_of hX hP hS hU hW.alike⟩⟩ rfl hlen hl.1 hst0 (lv_room hw) hd hX.2.2.2.2.2.2.2.2.2.1

theorem G_cVi (hX : nr_Cx Γ ρ X y cc nL ret d) {idx ci k : Nat} {y' : MethodName} {cc' : ByteArray} {nL' na d' : Nat} {ret' : Option FieldType} {As st0 : List Value} {post : Int32 → nr_S → Prop} (hd : decode cc pc = .ok (.invokevirtual idx, 3)) (hL : nr_LV y.cls idx ci y' cc' nL' ret' na) (hM : nr_Si Γ ρ d' y' cc' nL' ret' (.ref (ρ k) :: As) h t z g post) (hdd : d' + 1 ≤ d) (hk : nr_isC k ci) (hlen : As.length = na) (hst0 : st0 = As.reverse ++ .ref (ρ k) :: st) (hw : (st.map fun v => v.category).sum ≤ 8) (hn : pc + 3 = n) (kk : ∀ (r : Int32) (u : nr_S), post r u → nr_G Γ ρ X nL Q n lv (.int r :: st) u.1 u.2.1 u.2.2.1 u.2.2.2) : nr_G Γ ρ X nL Q pc lv st0 h t z g := by
  subst hn; intro H locs ls hP hS hl
  refine va_calli (nr_runV hX hd hL hM hdd hk hlen hst0 hw hP hS hl) hS (fun _ _ q => q) (fun _ q => q) (fun r u t1 H1 locs1 ht1 hvm hpo hB hz1 hk1 hS1 => ?_)
  have hP1 := hB.1
  rw [ht1] at hP1
  exact kk r u hpo H1 locs1 ls hP1 hS1 hl

theorem G_fVi (hX : nr_Cx Γ ρ X y cc nL ret d) {idx ci k : Nat} {y' : MethodName} {cc' : ByteArray} {nL' na d' : Nat} {ret' : Option FieldType} {As st0 : List Value} {h' t' : Nat} {z' : Nat → Int32} {g' : Nat → Nat → Int32} {r0 : Int32} (hd : decode cc pc = .ok (.invokevirtual idx, 3)) (hL : nr_LV y.cls idx ci y' cc' nL' ret' na) (hM : nr_Si Γ ρ d' y' cc' nL' ret' (.ref (ρ k) :: As) h t z g (fun r u => r = r0 ∧ u = (h', t', z', g'))) (hdd : d' + 1 ≤ d) (hk : nr_isC k ci) (hlen : As.length = na) (hst0 : st0 = As.reverse ++ .ref (ρ k) :: st) (hw : (st.map fun v => v.category).sum ≤ 8) (hn : pc + 3 = n) (kk : nr_G Γ ρ X nL Q n lv (.int r0 :: st) h' t' z' g') : nr_G Γ ρ X nL Q pc lv st0 h t z g := by
  refine G_cVi hX hd hL hM hdd hk hlen hst0 hw hn ?_
  rintro r u ⟨rfl, rfl⟩; exact kk

theorem G_cVv (hX : nr_Cx Γ ρ X y cc nL ret d) {idx ci k : Nat} {y' : MethodName} {cc' : ByteArray} {nL' na d' : Nat} {ret' : Option FieldType} {As st0 : List Value} {post : nr_S → Prop} (hd : decode cc pc = .ok (.invokevirtual idx, 3)) (hL : nr_LV y.cls idx ci y' cc' nL' ret' na) (hM : nr_Sv Γ ρ d' y' cc' nL' ret' (.ref (ρ k) :: As) h t z g post) (hdd : d' + 1 ≤ d) (hk : nr_isC k ci) (hlen : As.length = na) (hst0 : st0 = As.reverse ++ .ref (ρ k) :: st) (hw : (st.map fun v => v.category).sum ≤ 8) (hn : pc + 3 = n) (kk : ∀ (u : nr_S), post u → nr_G Γ ρ X nL Q n lv (st) u.1 u.2.1 u.2.2.1 u.2.2.2) : nr_G Γ ρ X nL Q pc lv st0 h t z g := by
  subst hn; intro H locs ls hP hS hl
  refine va_callv (nr_runV hX hd hL hM hdd hk hlen hst0 hw hP hS hl) hS (fun _ _ q => q) (fun _ q => q) (fun u t1 H1 locs1 ht1 hvm hpo hB hz1 hk1 hS1 => ?_)
  have hP1 := hB.1
  rw [ht1] at hP1
  exact kk u hpo H1 locs1 ls hP1 hS1 hl

theorem G_fVv (hX : nr_Cx Γ ρ X y cc nL ret d) {idx ci k : Nat} {y' : MethodName} {cc' : ByteArray} {nL' na d' : Nat} {ret' : Option FieldType} {As st0 : List Value} {h' t' : Nat} {z' : Nat → Int32} {g' : Nat → Nat → Int32} (hd : decode cc pc = .ok (.invokevirtual idx, 3)) (hL : nr_LV y.cls idx ci y' cc' nL' ret' na) (hM : nr_Sv Γ ρ d' y' cc' nL' ret' (.ref (ρ k) :: As) h t z g (fun u => u = (h', t', z', g'))) (hdd : d' + 1 ≤ d) (hk : nr_isC k ci) (hlen : As.length = na) (hst0 : st0 = As.reverse ++ .ref (ρ k) :: st) (hw : (st.map fun v => v.category).sum ≤ 8) (hn : pc + 3 = n) (kk : nr_G Γ ρ X nL Q n lv (st) h' t' z' g') : nr_G Γ ρ X nL Q pc lv st0 h t z g := by
  refine G_cVv hX hd hL hM hdd hk hlen hst0 hw hn ?_
  rintro u rfl; exact kk

theorem G_cVl (hX : nr_Cx Γ ρ X y cc nL ret d) {idx ci k : Nat} {y' : MethodName} {cc' : ByteArray} {nL' na d' : Nat} {ret' : Option FieldType} {As st0 : List Value} {post : Int64 → nr_S → Prop} (hd : decode cc pc = .ok (.invokevirtual idx, 3)) (hL : nr_LV y.cls idx ci y' cc' nL' ret' na) (hM : nr_Sl Γ ρ d' y' cc' nL' ret' (.ref (ρ k) :: As) h t z g post) (hdd : d' + 1 ≤ d) (hk : nr_isC k ci) (hlen : As.length = na) (hst0 : st0 = As.reverse ++ .ref (ρ k) :: st) (hw : (st.map fun v => v.category).sum ≤ 8) (hn : pc + 3 = n) (kk : ∀ (r : Int64) (u : nr_S), post r u → nr_G Γ ρ X nL Q n lv (.long r :: st) u.1 u.2.1 u.2.2.1 u.2.2.2) : nr_G Γ ρ X nL Q pc lv st0 h t z g := by
  subst hn; intro H locs ls hP hS hl
  refine va_calll (nr_runV hX hd hL hM hdd hk hlen hst0 hw hP hS hl) hS (fun _ _ q => q) (fun _ q => q) (fun r u t1 H1 locs1 ht1 hvm hpo hB hz1 hk1 hS1 => ?_)
  have hP1 := hB.1
  rw [ht1] at hP1
  exact kk r u hpo H1 locs1 ls hP1 hS1 hl

theorem G_fVl (hX : nr_Cx Γ ρ X y cc nL ret d) {idx ci k : Nat} {y' : MethodName} {cc' : ByteArray} {nL' na d' : Nat} {ret' : Option FieldType} {As st0 : List Value} {h' t' : Nat} {z' : Nat → Int32} {g' : Nat → Nat → Int32} {r0 : Int64} (hd : decode cc pc = .ok (.invokevirtual idx, 3)) (hL : nr_LV y.cls idx ci y' cc' nL' ret' na) (hM : nr_Sl Γ ρ d' y' cc' nL' ret' (.ref (ρ k) :: As) h t z g (fun r u => r = r0 ∧ u = (h', t', z', g'))) (hdd : d' + 1 ≤ d) (hk : nr_isC k ci) (hlen : As.length = na) (hst0 : st0 = As.reverse ++ .ref (ρ k) :: st) (hw : (st.map fun v => v.category).sum ≤ 8) (hn : pc + 3 = n) (kk : nr_G Γ ρ X nL Q n lv (.long r0 :: st) h' t' z' g') : nr_G Γ ρ X nL Q pc lv st0 h t z g := by
  refine G_cVl hX hd hL hM hdd hk hlen hst0 hw hn ?_
  rintro r u ⟨rfl, rfl⟩; exact kk

theorem G_cSi (hX : nr_Cx Γ ρ X y cc nL ret d) {idx : Nat} {y' : MethodName} {cc' : ByteArray} {nL' na d' : Nat} {ret' : Option FieldType} {As st0 : List Value} {post : Int32 → nr_S → Prop} (hd : decode cc pc = .ok (.invokestatic idx, 3)) (hL : nr_LS y.cls idx y' cc' nL' ret' na) (hM : nr_Si Γ ρ d' y' cc' nL' ret' As h t z g post) (hdd : d' + 1 ≤ d) (hlen : As.length = na) (hst0 : st0 = As.reverse ++ st) (hw : (st.map fun v => v.category).sum ≤ 8) (hn : pc + 3 = n) (kk : ∀ (r : Int32) (u : nr_S), post r u → nr_G Γ ρ X nL Q n lv (.int r :: st) u.1 u.2.1 u.2.2.1 u.2.2.2) : nr_G Γ ρ X nL Q pc lv st0 h t z g := by
  subst hn; intro H locs ls hP hS hl
  refine va_calli (nr_runS hX hd hL hM hdd hlen hst0 hw hP hS hl) hS (fun _ _ q => q) (fun _ q => q) (fun r u t1 H1 locs1 ht1 hvm hpo hB hz1 hk1 hS1 => ?_)
  have hP1 := hB.1
  rw [ht1] at hP1
  exact kk r u hpo H1 locs1 ls hP1 hS1 hl

theorem G_fSi (hX : nr_Cx Γ ρ X y cc nL ret d) {idx : Nat} {y' : MethodName} {cc' : ByteArray} {nL' na d' : Nat} {ret' : Option FieldType} {As st0 : List Value} {h' t' : Nat} {z' : Nat → Int32} {g' : Nat → Nat → Int32} {r0 : Int32} (hd : decode cc pc = .ok (.invokestatic idx, 3)) (hL : nr_LS y.cls idx y' cc' nL' ret' na) (hM : nr_Si Γ ρ d' y' cc' nL' ret' As h t z g (fun r u => r = r0 ∧ u = (h', t', z', g'))) (hdd : d' + 1 ≤ d) (hlen : As.length = na) (hst0 : st0 = As.reverse ++ st) (hw : (st.map fun v => v.category).sum ≤ 8) (hn : pc + 3 = n) (kk : nr_G Γ ρ X nL Q n lv (.int r0 :: st) h' t' z' g') : nr_G Γ ρ X nL Q pc lv st0 h t z g := by
  refine G_cSi hX hd hL hM hdd hlen hst0 hw hn ?_
  rintro r u ⟨rfl, rfl⟩; exact kk

theorem G_cSv (hX : nr_Cx Γ ρ X y cc nL ret d) {idx : Nat} {y' : MethodName} {cc' : ByteArray} {nL' na d' : Nat} {ret' : Option FieldType} {As st0 : List Value} {post : nr_S → Prop} (hd : decode cc pc = .ok (.invokestatic idx, 3)) (hL : nr_LS y.cls idx y' cc' nL' ret' na) (hM : nr_Sv Γ ρ d' y' cc' nL' ret' As h t z g post) (hdd : d' + 1 ≤ d) (hlen : As.length = na) (hst0 : st0 = As.reverse ++ st) (hw : (st.map fun v => v.category).sum ≤ 8) (hn : pc + 3 = n) (kk : ∀ (u : nr_S), post u → nr_G Γ ρ X nL Q n lv (st) u.1 u.2.1 u.2.2.1 u.2.2.2) : nr_G Γ ρ X nL Q pc lv st0 h t z g := by
  subst hn; intro H locs ls hP hS hl
  refine va_callv (nr_runS hX hd hL hM hdd hlen hst0 hw hP hS hl) hS (fun _ _ q => q) (fun _ q => q) (fun u t1 H1 locs1 ht1 hvm hpo hB hz1 hk1 hS1 => ?_)
  have hP1 := hB.1
  rw [ht1] at hP1
  exact kk u hpo H1 locs1 ls hP1 hS1 hl

theorem G_fSv (hX : nr_Cx Γ ρ X y cc nL ret d) {idx : Nat} {y' : MethodName} {cc' : ByteArray} {nL' na d' : Nat} {ret' : Option FieldType} {As st0 : List Value} {h' t' : Nat} {z' : Nat → Int32} {g' : Nat → Nat → Int32} (hd : decode cc pc = .ok (.invokestatic idx, 3)) (hL : nr_LS y.cls idx y' cc' nL' ret' na) (hM : nr_Sv Γ ρ d' y' cc' nL' ret' As h t z g (fun u => u = (h', t', z', g'))) (hdd : d' + 1 ≤ d) (hlen : As.length = na) (hst0 : st0 = As.reverse ++ st) (hw : (st.map fun v => v.category).sum ≤ 8) (hn : pc + 3 = n) (kk : nr_G Γ ρ X nL Q n lv (st) h' t' z' g') : nr_G Γ ρ X nL Q pc lv st0 h t z g := by
  refine G_cSv hX hd hL hM hdd hlen hst0 hw hn ?_
  rintro u rfl; exact kk

theorem G_cSl (hX : nr_Cx Γ ρ X y cc nL ret d) {idx : Nat} {y' : MethodName} {cc' : ByteArray} {nL' na d' : Nat} {ret' : Option FieldType} {As st0 : List Value} {post : Int64 → nr_S → Prop} (hd : decode cc pc = .ok (.invokestatic idx, 3)) (hL : nr_LS y.cls idx y' cc' nL' ret' na) (hM : nr_Sl Γ ρ d' y' cc' nL' ret' As h t z g post) (hdd : d' + 1 ≤ d) (hlen : As.length = na) (hst0 : st0 = As.reverse ++ st) (hw : (st.map fun v => v.category).sum ≤ 8) (hn : pc + 3 = n) (kk : ∀ (r : Int64) (u : nr_S), post r u → nr_G Γ ρ X nL Q n lv (.long r :: st) u.1 u.2.1 u.2.2.1 u.2.2.2) : nr_G Γ ρ X nL Q pc lv st0 h t z g := by
  subst hn; intro H locs ls hP hS hl
  refine va_calll (nr_runS hX hd hL hM hdd hlen hst0 hw hP hS hl) hS (fun _ _ q => q) (fun _ q => q) (fun r u t1 H1 locs1 ht1 hvm hpo hB hz1 hk1 hS1 => ?_)
  have hP1 := hB.1
  rw [ht1] at hP1
  exact kk r u hpo H1 locs1 ls hP1 hS1 hl

theorem G_fSl (hX : nr_Cx Γ ρ X y cc nL ret d) {idx : Nat} {y' : MethodName} {cc' : ByteArray} {nL' na d' : Nat} {ret' : Option FieldType} {As st0 : List Value} {h' t' : Nat} {z' : Nat → Int32} {g' : Nat → Nat → Int32} {r0 : Int64} (hd : decode cc pc = .ok (.invokestatic idx, 3)) (hL : nr_LS y.cls idx y' cc' nL' ret' na) (hM : nr_Sl Γ ρ d' y' cc' nL' ret' As h t z g (fun r u => r = r0 ∧ u = (h', t', z', g'))) (hdd : d' + 1 ≤ d) (hlen : As.length = na) (hst0 : st0 = As.reverse ++ st) (hw : (st.map fun v => v.category).sum ≤ 8) (hn : pc + 3 = n) (kk : nr_G Γ ρ X nL Q n lv (.long r0 :: st) h' t' z' g') : nr_G Γ ρ X nL Q pc lv st0 h t z g := by
  refine G_cSl hX hd hL hM hdd hlen hst0 hw hn ?_
  rintro r u ⟨rfl, rfl⟩; exact kk

theorem G_max (hX : nr_Cx Γ ρ X y cc nL ret d) {idx : Nat} {a b : Int32} (hd : decode cc pc = .ok (.invokestatic idx, 3)) (h1 : Cond.methodLink y.cls idx Lib.Math.max.name ∈ nr_tb) (hdd : 1 ≤ d) (hw : (st.map fun v => v.category).sum ≤ 8) (hn : pc + 3 = n) (kk : nr_G Γ ρ X nL Q n lv (.int (if a < b then b else a) :: st) h t z g) : nr_G Γ ρ X nL Q pc lv (.int b :: .int a :: st) h t z g := by
  subst hn; intro H locs ls hP hS hl
  obtain ⟨hx, hb, hml, hown, hts, hK, hI, hst, hR, hC, hret, hlk⟩ := hX
  exact va_mmax hx hb (hml.trans hl.1.symm) hown (hts _ h1) (hts _ nr_max_s) (hts _ nr_max_i) (hts _ nr_max_c) (Nat.le_trans hdd hR.1) (by have := hR.2; omega) hC.1 hC.2 hd (kk H locs ls hP hS hl)
theorem G_min (hX : nr_Cx Γ ρ X y cc nL ret d) {idx : Nat} {a b : Int32} (hd : decode cc pc = .ok (.invokestatic idx, 3)) (h1 : Cond.methodLink y.cls idx Lib.Math.min.name ∈ nr_tb) (hdd : 1 ≤ d) (hw : (st.map fun v => v.category).sum ≤ 8) (hn : pc + 3 = n) (kk : nr_G Γ ρ X nL Q n lv (.int (if b < a then b else a) :: st) h t z g) : nr_G Γ ρ X nL Q pc lv (.int b :: .int a :: st) h t z g := by
  subst hn; intro H locs ls hP hS hl
  obtain ⟨hx, hb, hml, hown, hts, hK, hI, hst, hR, hC, hret, hlk⟩ := hX
  exact va_mmin hx hb (hml.trans hl.1.symm) hown (hts _ h1) (hts _ nr_min_s) (hts _ nr_max_i) (hts _ nr_min_c) (Nat.le_trans hdd hR.1) (by have := hR.2; omega) hC.1 hC.2 hd (kk H locs ls hP hS hl)
theorem G_copy (hX : nr_Cx Γ ρ X y cc nL ret d) {idx k0 k1 N0 N1 : Nat} {sp dp m : Int32} (hd : decode cc pc = .ok (.invokestatic idx, 3)) (h1 : Cond.methodLink y.cls idx arraycopyName ∈ nr_tb) (hdd : 1 ≤ d) (hw : (st.map fun v => v.category).sum ≤ 8) (hk0 : nr_il k0 = N0) (h00 : 0 < N0) (hk1 : nr_il k1 = N1) (h01 : 0 < N1) (c1 : ¬ sp < 0) (c2 : ¬ dp < 0) (c3 : ¬ m < 0) (c4 : sp.toNatClampNeg + m.toNatClampNeg ≤ N0) (c5 : dp.toNatClampNeg + m.toNatClampNeg ≤ N1) (hn : pc + 3 = n) (kk : nr_G Γ ρ X nL Q n lv st h t z (va_up g k1 (va_cpy (g k0) (g k1) sp.toNatClampNeg dp.toNatClampNeg m.toNatClampNeg))) : nr_G Γ ρ X nL Q pc lv (.int m :: .int dp :: .ref (ρ k1) :: .int sp :: .ref (ρ k0) :: st) h t z g := by
  subst hn; intro H locs ls hP hS hl
  have hX0 := hX
  obtain ⟨hx, hb, hml, hown, hts, hK, hI, hst, hR, hC, hret, hlk⟩ := hX
  obtain ⟨hk06, he0⟩ := nr_il_hp hk0 h00
  have hws0 := nr_ws_get (Γ := Γ) (ρ := ρ) (h := h) (t := t) (z := z) (g := g) hk06
  rw [he0] at hws0
  obtain ⟨hk16, he1⟩ := nr_il_hp hk1 h01
  have hws1 := nr_ws_get (Γ := Γ) (ρ := ρ) (h := h) (t := t) (z := z) (g := g) hk16
  rw [he1] at hws1
  refine va_copyi hx hb (hml.trans hl.1.symm) hown (hts _ h1) (hts _ nr_cp_n) (hts _ nr_cp_s) (hts _ nr_cp_i) hK hP (nr_D hI) hS k0 k1 0 0 hws0 hws1 rfl rfl rfl c1 c2 c3 c4 c5 (fun _ _ => rfl) (Nat.le_trans hdd hR.1) ?_ hd (fun H1 locs1 hP1 _ hS1 => ?_)
  · have e : nativeFrameWords "java/lang/System" "arraycopy" 5 ≤ 60 := by decide +kernel
    have := hR.2
    omega
  · rw [nr_ws_set (fun q _ => nr_up_arr hk1 h01 _ q)] at hP1
    exact kk H1 locs1 ls hP1 hS1 hl

end
end
section
def nr_ho (b : Nat) : Prop := b = 1 ∨ b = 3
def nr_ta (t : Nat) : Prop := t = 13 ∨ t = 16
theorem nr_il_ho {b : Nat} (hb : nr_ho b) : nr_il (b + 1) = 58 := by rcases hb with rfl | rfl <;> rfl
theorem nr_il_t1 {t : Nat} (ht : nr_ta t) : nr_il (t + 1) = 8 := by rcases ht with rfl | rfl <;> rfl
theorem nr_il_t2 {t : Nat} (ht : nr_ta t) : nr_il (t + 2) = 150 := by rcases ht with rfl | rfl <;> rfl
theorem nr_is_ho {b : Nat} (hb : nr_ho b) : nr_isC b 0 := by rcases hb with rfl | rfl <;> exact ⟨by decide, fun _ _ _ _ _ _ => ⟨_, rfl⟩⟩
theorem nr_is_ta {t : Nat} (ht : nr_ta t) : nr_isC t 4 := by rcases ht with rfl | rfl <;> exact ⟨by decide, fun _ _ _ _ _ _ => ⟨_, rfl⟩⟩
theorem nr_is_0 : nr_isC 0 5 := ⟨by decide, fun _ _ _ _ _ _ => ⟨_, rfl⟩⟩
theorem nr_is_5 : nr_isC 5 1 := ⟨by decide, fun _ _ _ _ _ _ => ⟨_, rfl⟩⟩
theorem nr_is_7 : nr_isC 7 3 := ⟨by decide, fun _ _ _ _ _ _ => ⟨_, rfl⟩⟩
theorem nr_is_19 : nr_isC 19 2 := ⟨by decide, fun _ _ _ _ _ _ => ⟨_, rfl⟩⟩
theorem nr_is_20 : nr_isC 20 6 := ⟨by decide, fun _ _ _ _ _ _ => ⟨_, rfl⟩⟩
theorem gt_RX0_9 {b : Nat} (hb : nr_ho b) : nr_GT RX0 9 b (fun ρ _ _ _ => .ref (ρ (b + 1))) := by rcases hb with rfl | rfl <;> exact ⟨by decide, 0, 0, ⟨RX0, TX0, 1, rfl, nr_u0, by decide, Or.inl wf_RX0_9⟩, fun _ _ _ _ _ _ => ⟨_, rfl, rfl⟩⟩
theorem gt_RX1_9 : nr_GT RX1 9 5 (fun ρ _ _ _ => .ref (ρ 6)) := ⟨by decide, 1, 0, ⟨RX1, TX1, 2, rfl, nr_u1, by decide, Or.inl wf_RX1_9⟩, fun _ _ _ _ _ _ => ⟨_, rfl, rfl⟩⟩
theorem gt_RX1_15 : nr_GT RX1 15 5 (fun _ _ _ z => .int (z 3)) := ⟨by decide, 1, 1, ⟨RX1, TX1, 2, rfl, nr_u1, by decide, Or.inl wf_RX1_15⟩, fun _ _ _ _ _ _ => ⟨_, rfl, rfl⟩⟩
theorem pt_RX1_15 : nr_PT RX1 15 5 3 .int := ⟨by decide, 1, 1, ⟨RX1, TX1, 2, tyX1, rfl, nr_u1, tyX1_ok, nmX1, by decide, wf_RX1_15, rfl, by decide +kernel⟩, fun _ _ _ _ _ _ => ⟨_, rfl, Nat.le_of_ble_eq_true rfl, fun v q hq => match q, hq with | 0, _ => rfl | 1, _ => rfl | 2, _ => rfl | 3, _ => rfl | 4, _ => rfl | 5, _ => rfl | 6, _ => rfl | 7, _ => rfl | 8, _ => rfl | 9, _ => rfl | 10, _ => rfl | 11, _ => rfl | 12, _ => rfl | 13, _ => rfl | 14, _ => rfl | 15, _ => rfl | 16, _ => rfl | 17, _ => rfl | 18, _ => rfl | 19, _ => rfl | 20, _ => rfl | 21, _ => rfl | 22, _ => rfl | 23, _ => rfl | 24, _ => rfl | 25, _ => rfl | 26, _ => rfl | 27, _ => rfl | 28, _ => rfl | 29, _ => rfl | 30, _ => rfl | 31, _ => rfl | 32, _ => rfl | 33, _ => rfl | 34, _ => rfl | 35, _ => rfl | n + 36, q => absurd q (by omega)⟩⟩
theorem gt_RX1_25 : nr_GT RX1 25 1 (fun ρ _ _ _ => .ref (ρ 2)) := ⟨by decide, 0, 0, ⟨RX0, TX0, 1, rfl, nr_u0, by decide, Or.inr ⟨_, wf_RX1_25⟩⟩, fun _ _ _ _ _ _ => ⟨_, rfl, rfl⟩⟩
theorem gt_RX2_9 : nr_GT RX2 9 19 (fun ρ _ _ _ => .ref (ρ 7)) := ⟨by decide, 2, 0, ⟨RX2, TX2, 3, rfl, nr_u2, by decide, Or.inl wf_RX2_9⟩, fun _ _ _ _ _ _ => ⟨_, rfl, rfl⟩⟩
theorem gt_RX2_15 : nr_GT RX2 15 19 (fun ρ h _ _ => .ref (ρ h)) := ⟨by decide, 2, 1, ⟨RX2, TX2, 3, rfl, nr_u2, by decide, Or.inl wf_RX2_15⟩, fun _ _ _ _ _ _ => ⟨_, rfl, rfl⟩⟩
theorem pr_RX2_15 : nr_FP RX2 15 2 1 (.object "NightRounds$House") := ⟨RX2, TX2, 3, tyX2, rfl, nr_u2, tyX2_ok, nmX2, by decide, wf_RX2_15, rfl, by decide +kernel⟩
theorem gt_RX2_19 : nr_GT RX2 19 19 (fun ρ _ t _ => .ref (ρ t)) := ⟨by decide, 2, 2, ⟨RX2, TX2, 3, rfl, nr_u2, by decide, Or.inl wf_RX2_19⟩, fun _ _ _ _ _ _ => ⟨_, rfl, rfl⟩⟩
theorem pr_RX2_19 : nr_FP RX2 19 2 2 (.object "NightRounds$Tale") := ⟨RX2, TX2, 3, tyX2, rfl, nr_u2, tyX2_ok, nmX2, by decide, wf_RX2_19, rfl, by decide +kernel⟩
theorem gt_RX3_9 : nr_GT RX3 9 7 (fun ρ _ _ _ => .ref (ρ 8)) := ⟨by decide, 3, 0, ⟨RX3, TX3, 11, rfl, nr_u3, by decide, Or.inl wf_RX3_9⟩, fun _ _ _ _ _ _ => ⟨_, rfl, rfl⟩⟩
theorem gt_RX3_15 : nr_GT RX3 15 7 (fun ρ _ _ _ => .ref (ρ 9)) := ⟨by decide, 3, 1, ⟨RX3, TX3, 11, rfl, nr_u3, by decide, Or.inl wf_RX3_15⟩, fun _ _ _ _ _ _ => ⟨_, rfl, rfl⟩⟩
theorem gt_RX3_18 : nr_GT RX3 18 7 (fun ρ _ _ _ => .ref (ρ 10)) := ⟨by decide, 3, 2, ⟨RX3, TX3, 11, rfl, nr_u3, by decide, Or.inl wf_RX3_18⟩, fun _ _ _ _ _ _ => ⟨_, rfl, rfl⟩⟩
theorem gt_RX3_21 : nr_GT RX3 21 7 (fun ρ _ _ _ => .ref (ρ 11)) := ⟨by decide, 3, 3, ⟨RX3, TX3, 11, rfl, nr_u3, by decide, Or.inl wf_RX3_21⟩, fun _ _ _ _ _ _ => ⟨_, rfl, rfl⟩⟩
theorem gt_RX3_24 : nr_GT RX3 24 7 (fun ρ _ _ _ => .ref (ρ 12)) := ⟨by decide, 3, 4, ⟨RX3, TX3, 11, rfl, nr_u3, by decide, Or.inl wf_RX3_24⟩, fun _ _ _ _ _ _ => ⟨_, rfl, rfl⟩⟩
theorem gt_RX3_27 : nr_GT RX3 27 7 (fun _ _ _ z => .int (z 4)) := ⟨by decide, 3, 5, ⟨RX3, TX3, 11, rfl, nr_u3, by decide, Or.inl wf_RX3_27⟩, fun _ _ _ _ _ _ => ⟨_, rfl, rfl⟩⟩
theorem pt_RX3_27 : nr_PT RX3 27 7 4 .int := ⟨by decide, 3, 5, ⟨RX3, TX3, 11, tyX3, rfl, nr_u3, tyX3_ok, nmX3, by decide, wf_RX3_27, rfl, by decide +kernel⟩, fun _ _ _ _ _ _ => ⟨_, rfl, Nat.le_of_ble_eq_true rfl, fun v q hq => match q, hq with | 0, _ => rfl | 1, _ => rfl | 2, _ => rfl | 3, _ => rfl | 4, _ => rfl | 5, _ => rfl | 6, _ => rfl | 7, _ => rfl | 8, _ => rfl | 9, _ => rfl | 10, _ => rfl | 11, _ => rfl | 12, _ => rfl | 13, _ => rfl | 14, _ => rfl | 15, _ => rfl | 16, _ => rfl | 17, _ => rfl | 18, _ => rfl | 19, _ => rfl | 20, _ => rfl | 21, _ => rfl | 22, _ => rfl | 23, _ => rfl | 24, _ => rfl | 25, _ => rfl | 26, _ => rfl | 27, _ => rfl | 28, _ => rfl | 29, _ => rfl | 30, _ => rfl | 31, _ => rfl | 32, _ => rfl | 33, _ => rfl | 34, _ => rfl | 35, _ => rfl | n + 36, q => absurd q (by omega)⟩⟩
theorem gt_RX3_31 : nr_GT RX3 31 7 (fun _ _ _ z => .int (z 5)) := ⟨by decide, 3, 6, ⟨RX3, TX3, 11, rfl, nr_u3, by decide, Or.inl wf_RX3_31⟩, fun _ _ _ _ _ _ => ⟨_, rfl, rfl⟩⟩
theorem pt_RX3_31 : nr_PT RX3 31 7 5 .int := ⟨by decide, 3, 6, ⟨RX3, TX3, 11, tyX3, rfl, nr_u3, tyX3_ok, nmX3, by decide, wf_RX3_31, rfl, by decide +kernel⟩, fun _ _ _ _ _ _ => ⟨_, rfl, Nat.le_of_ble_eq_true rfl, fun v q hq => match q, hq with | 0, _ => rfl | 1, _ => rfl | 2, _ => rfl | 3, _ => rfl | 4, _ => rfl | 5, _ => rfl | 6, _ => rfl | 7, _ => rfl | 8, _ => rfl | 9, _ => rfl | 10, _ => rfl | 11, _ => rfl | 12, _ => rfl | 13, _ => rfl | 14, _ => rfl | 15, _ => rfl | 16, _ => rfl | 17, _ => rfl | 18, _ => rfl | 19, _ => rfl | 20, _ => rfl | 21, _ => rfl | 22, _ => rfl | 23, _ => rfl | 24, _ => rfl | 25, _ => rfl | 26, _ => rfl | 27, _ => rfl | 28, _ => rfl | 29, _ => rfl | 30, _ => rfl | 31, _ => rfl | 32, _ => rfl | 33, _ => rfl | 34, _ => rfl | 35, _ => rfl | n + 36, q => absurd q (by omega)⟩⟩
theorem gt_RX3_34 : nr_GT RX3 34 7 (fun _ _ _ z => .int (z 6)) := ⟨by decide, 3, 7, ⟨RX3, TX3, 11, rfl, nr_u3, by decide, Or.inl wf_RX3_34⟩, fun _ _ _ _ _ _ => ⟨_, rfl, rfl⟩⟩
theorem pt_RX3_34 : nr_PT RX3 34 7 6 .int := ⟨by decide, 3, 7, ⟨RX3, TX3, 11, tyX3, rfl, nr_u3, tyX3_ok, nmX3, by decide, wf_RX3_34, rfl, by decide +kernel⟩, fun _ _ _ _ _ _ => ⟨_, rfl, Nat.le_of_ble_eq_true rfl, fun v q hq => match q, hq with | 0, _ => rfl | 1, _ => rfl | 2, _ => rfl | 3, _ => rfl | 4, _ => rfl | 5, _ => rfl | 6, _ => rfl | 7, _ => rfl | 8, _ => rfl | 9, _ => rfl | 10, _ => rfl | 11, _ => rfl | 12, _ => rfl | 13, _ => rfl | 14, _ => rfl | 15, _ => rfl | 16, _ => rfl | 17, _ => rfl | 18, _ => rfl | 19, _ => rfl | 20, _ => rfl | 21, _ => rfl | 22, _ => rfl | 23, _ => rfl | 24, _ => rfl | 25, _ => rfl | 26, _ => rfl | 27, _ => rfl | 28, _ => rfl | 29, _ => rfl | 30, _ => rfl | 31, _ => rfl | 32, _ => rfl | 33, _ => rfl | 34, _ => rfl | 35, _ => rfl | n + 36, q => absurd q (by omega)⟩⟩
theorem gt_RX3_37 : nr_GT RX3 37 7 (fun _ _ _ z => .int (z 7)) := ⟨by decide, 3, 8, ⟨RX3, TX3, 11, rfl, nr_u3, by decide, Or.inl wf_RX3_37⟩, fun _ _ _ _ _ _ => ⟨_, rfl, rfl⟩⟩
theorem pt_RX3_37 : nr_PT RX3 37 7 7 .int := ⟨by decide, 3, 8, ⟨RX3, TX3, 11, tyX3, rfl, nr_u3, tyX3_ok, nmX3, by decide, wf_RX3_37, rfl, by decide +kernel⟩, fun _ _ _ _ _ _ => ⟨_, rfl, Nat.le_of_ble_eq_true rfl, fun v q hq => match q, hq with | 0, _ => rfl | 1, _ => rfl | 2, _ => rfl | 3, _ => rfl | 4, _ => rfl | 5, _ => rfl | 6, _ => rfl | 7, _ => rfl | 8, _ => rfl | 9, _ => rfl | 10, _ => rfl | 11, _ => rfl | 12, _ => rfl | 13, _ => rfl | 14, _ => rfl | 15, _ => rfl | 16, _ => rfl | 17, _ => rfl | 18, _ => rfl | 19, _ => rfl | 20, _ => rfl | 21, _ => rfl | 22, _ => rfl | 23, _ => rfl | 24, _ => rfl | 25, _ => rfl | 26, _ => rfl | 27, _ => rfl | 28, _ => rfl | 29, _ => rfl | 30, _ => rfl | 31, _ => rfl | 32, _ => rfl | 33, _ => rfl | 34, _ => rfl | 35, _ => rfl | n + 36, q => absurd q (by omega)⟩⟩
theorem gt_RX3_44 : nr_GT RX3 44 7 (fun _ _ _ z => .int (z 8)) := ⟨by decide, 3, 9, ⟨RX3, TX3, 11, rfl, nr_u3, by decide, Or.inl wf_RX3_44⟩, fun _ _ _ _ _ _ => ⟨_, rfl, rfl⟩⟩
theorem pt_RX3_44 : nr_PT RX3 44 7 8 .int := ⟨by decide, 3, 9, ⟨RX3, TX3, 11, tyX3, rfl, nr_u3, tyX3_ok, nmX3, by decide, wf_RX3_44, rfl, by decide +kernel⟩, fun _ _ _ _ _ _ => ⟨_, rfl, Nat.le_of_ble_eq_true rfl, fun v q hq => match q, hq with | 0, _ => rfl | 1, _ => rfl | 2, _ => rfl | 3, _ => rfl | 4, _ => rfl | 5, _ => rfl | 6, _ => rfl | 7, _ => rfl | 8, _ => rfl | 9, _ => rfl | 10, _ => rfl | 11, _ => rfl | 12, _ => rfl | 13, _ => rfl | 14, _ => rfl | 15, _ => rfl | 16, _ => rfl | 17, _ => rfl | 18, _ => rfl | 19, _ => rfl | 20, _ => rfl | 21, _ => rfl | 22, _ => rfl | 23, _ => rfl | 24, _ => rfl | 25, _ => rfl | 26, _ => rfl | 27, _ => rfl | 28, _ => rfl | 29, _ => rfl | 30, _ => rfl | 31, _ => rfl | 32, _ => rfl | 33, _ => rfl | 34, _ => rfl | 35, _ => rfl | n + 36, q => absurd q (by omega)⟩⟩
theorem gt_RX3_47 : nr_GT RX3 47 7 (fun _ _ _ z => .int (z 9)) := ⟨by decide, 3, 10, ⟨RX3, TX3, 11, rfl, nr_u3, by decide, Or.inl wf_RX3_47⟩, fun _ _ _ _ _ _ => ⟨_, rfl, rfl⟩⟩
theorem pt_RX3_47 : nr_PT RX3 47 7 9 .int := ⟨by decide, 3, 10, ⟨RX3, TX3, 11, tyX3, rfl, nr_u3, tyX3_ok, nmX3, by decide, wf_RX3_47, rfl, by decide +kernel⟩, fun _ _ _ _ _ _ => ⟨_, rfl, Nat.le_of_ble_eq_true rfl, fun v q hq => match q, hq with | 0, _ => rfl | 1, _ => rfl | 2, _ => rfl | 3, _ => rfl | 4, _ => rfl | 5, _ => rfl | 6, _ => rfl | 7, _ => rfl | 8, _ => rfl | 9, _ => rfl | 10, _ => rfl | 11, _ => rfl | 12, _ => rfl | 13, _ => rfl | 14, _ => rfl | 15, _ => rfl | 16, _ => rfl | 17, _ => rfl | 18, _ => rfl | 19, _ => rfl | 20, _ => rfl | 21, _ => rfl | 22, _ => rfl | 23, _ => rfl | 24, _ => rfl | 25, _ => rfl | 26, _ => rfl | 27, _ => rfl | 28, _ => rfl | 29, _ => rfl | 30, _ => rfl | 31, _ => rfl | 32, _ => rfl | 33, _ => rfl | 34, _ => rfl | 35, _ => rfl | n + 36, q => absurd q (by omega)⟩⟩
theorem gt_RX4_9 {t : Nat} (ht : nr_ta t) : nr_GT RX4 9 t (fun ρ _ _ _ => .ref (ρ (t + 1))) := by rcases ht with rfl | rfl <;> exact ⟨by decide, 4, 0, ⟨RX4, TX4, 5, rfl, nr_u4, by decide, Or.inl wf_RX4_9⟩, fun _ _ _ _ _ _ => ⟨_, rfl, rfl⟩⟩
theorem gt_RX4_15 {t : Nat} (ht : nr_ta t) : nr_GT RX4 15 t (fun ρ _ _ _ => .ref (ρ (t + 2))) := by rcases ht with rfl | rfl <;> exact ⟨by decide, 4, 1, ⟨RX4, TX4, 5, rfl, nr_u4, by decide, Or.inl wf_RX4_15⟩, fun _ _ _ _ _ _ => ⟨_, rfl, rfl⟩⟩
theorem gt_RX4_27 {t : Nat} (ht : nr_ta t) : nr_GT RX4 27 t (fun _ _ _ z => .int (z (t - 3))) := by rcases ht with rfl | rfl <;> exact ⟨by decide, 4, 2, ⟨RX4, TX4, 5, rfl, nr_u4, by decide, Or.inl wf_RX4_27⟩, fun _ _ _ _ _ _ => ⟨_, rfl, rfl⟩⟩
theorem pt_RX4_27 {t : Nat} (ht : nr_ta t) : nr_PT RX4 27 t (t - 3) .int := by rcases ht with rfl | rfl <;> exact ⟨by decide, 4, 2, ⟨RX4, TX4, 5, tyX4, rfl, nr_u4, tyX4_ok, nmX4, by decide, wf_RX4_27, rfl, by decide +kernel⟩, fun _ _ _ _ _ _ => ⟨_, rfl, Nat.le_of_ble_eq_true rfl, fun v q hq => match q, hq with | 0, _ => rfl | 1, _ => rfl | 2, _ => rfl | 3, _ => rfl | 4, _ => rfl | 5, _ => rfl | 6, _ => rfl | 7, _ => rfl | 8, _ => rfl | 9, _ => rfl | 10, _ => rfl | 11, _ => rfl | 12, _ => rfl | 13, _ => rfl | 14, _ => rfl | 15, _ => rfl | 16, _ => rfl | 17, _ => rfl | 18, _ => rfl | 19, _ => rfl | 20, _ => rfl | 21, _ => rfl | 22, _ => rfl | 23, _ => rfl | 24, _ => rfl | 25, _ => rfl | 26, _ => rfl | 27, _ => rfl | 28, _ => rfl | 29, _ => rfl | 30, _ => rfl | 31, _ => rfl | 32, _ => rfl | 33, _ => rfl | 34, _ => rfl | 35, _ => rfl | n + 36, q => absurd q (by omega)⟩⟩
theorem gt_RX4_31 {t : Nat} (ht : nr_ta t) : nr_GT RX4 31 t (fun _ _ _ z => .int (z (t - 1))) := by rcases ht with rfl | rfl <;> exact ⟨by decide, 4, 4, ⟨RX4, TX4, 5, rfl, nr_u4, by decide, Or.inl wf_RX4_31⟩, fun _ _ _ _ _ _ => ⟨_, rfl, rfl⟩⟩
theorem pt_RX4_31 {t : Nat} (ht : nr_ta t) : nr_PT RX4 31 t (t - 1) .int := by rcases ht with rfl | rfl <;> exact ⟨by decide, 4, 4, ⟨RX4, TX4, 5, tyX4, rfl, nr_u4, tyX4_ok, nmX4, by decide, wf_RX4_31, rfl, by decide +kernel⟩, fun _ _ _ _ _ _ => ⟨_, rfl, Nat.le_of_ble_eq_true rfl, fun v q hq => match q, hq with | 0, _ => rfl | 1, _ => rfl | 2, _ => rfl | 3, _ => rfl | 4, _ => rfl | 5, _ => rfl | 6, _ => rfl | 7, _ => rfl | 8, _ => rfl | 9, _ => rfl | 10, _ => rfl | 11, _ => rfl | 12, _ => rfl | 13, _ => rfl | 14, _ => rfl | 15, _ => rfl | 16, _ => rfl | 17, _ => rfl | 18, _ => rfl | 19, _ => rfl | 20, _ => rfl | 21, _ => rfl | 22, _ => rfl | 23, _ => rfl | 24, _ => rfl | 25, _ => rfl | 26, _ => rfl | 27, _ => rfl | 28, _ => rfl | 29, _ => rfl | 30, _ => rfl | 31, _ => rfl | 32, _ => rfl | 33, _ => rfl | 34, _ => rfl | 35, _ => rfl | n + 36, q => absurd q (by omega)⟩⟩
theorem gt_RX4_37 {t : Nat} (ht : nr_ta t) : nr_GT RX4 37 t (fun _ _ _ z => .int (z (t - 2))) := by rcases ht with rfl | rfl <;> exact ⟨by decide, 4, 3, ⟨RX4, TX4, 5, rfl, nr_u4, by decide, Or.inl wf_RX4_37⟩, fun _ _ _ _ _ _ => ⟨_, rfl, rfl⟩⟩
theorem pt_RX4_37 {t : Nat} (ht : nr_ta t) : nr_PT RX4 37 t (t - 2) .int := by rcases ht with rfl | rfl <;> exact ⟨by decide, 4, 3, ⟨RX4, TX4, 5, tyX4, rfl, nr_u4, tyX4_ok, nmX4, by decide, wf_RX4_37, rfl, by decide +kernel⟩, fun _ _ _ _ _ _ => ⟨_, rfl, Nat.le_of_ble_eq_true rfl, fun v q hq => match q, hq with | 0, _ => rfl | 1, _ => rfl | 2, _ => rfl | 3, _ => rfl | 4, _ => rfl | 5, _ => rfl | 6, _ => rfl | 7, _ => rfl | 8, _ => rfl | 9, _ => rfl | 10, _ => rfl | 11, _ => rfl | 12, _ => rfl | 13, _ => rfl | 14, _ => rfl | 15, _ => rfl | 16, _ => rfl | 17, _ => rfl | 18, _ => rfl | 19, _ => rfl | 20, _ => rfl | 21, _ => rfl | 22, _ => rfl | 23, _ => rfl | 24, _ => rfl | 25, _ => rfl | 26, _ => rfl | 27, _ => rfl | 28, _ => rfl | 29, _ => rfl | 30, _ => rfl | 31, _ => rfl | 32, _ => rfl | 33, _ => rfl | 34, _ => rfl | 35, _ => rfl | n + 36, q => absurd q (by omega)⟩⟩
theorem gt_RX5_12 : nr_GT RX5 12 0 (fun ρ _ _ _ => .ref (ρ 1)) := ⟨by decide, 5, 0, ⟨RX5, TX5, 10, rfl, nr_u5, by decide, Or.inl wf_RX5_12⟩, fun _ _ _ _ _ _ => ⟨_, rfl, rfl⟩⟩
theorem gt_RX5_16 : nr_GT RX5 16 0 (fun ρ _ _ _ => .ref (ρ 3)) := ⟨by decide, 5, 1, ⟨RX5, TX5, 10, rfl, nr_u5, by decide, Or.inl wf_RX5_16⟩, fun _ _ _ _ _ _ => ⟨_, rfl, rfl⟩⟩
theorem gt_RX5_22 : nr_GT RX5 22 0 (fun ρ _ _ _ => .ref (ρ 5)) := ⟨by decide, 5, 2, ⟨RX5, TX5, 10, rfl, nr_u5, by decide, Or.inl wf_RX5_22⟩, fun _ _ _ _ _ _ => ⟨_, rfl, rfl⟩⟩
theorem gt_RX5_29 : nr_GT RX5 29 0 (fun ρ _ _ _ => .ref (ρ 7)) := ⟨by decide, 5, 3, ⟨RX5, TX5, 10, rfl, nr_u5, by decide, Or.inl wf_RX5_29⟩, fun _ _ _ _ _ _ => ⟨_, rfl, rfl⟩⟩
theorem gt_RX5_36 : nr_GT RX5 36 0 (fun ρ _ _ _ => .ref (ρ 13)) := ⟨by decide, 5, 4, ⟨RX5, TX5, 10, rfl, nr_u5, by decide, Or.inl wf_RX5_36⟩, fun _ _ _ _ _ _ => ⟨_, rfl, rfl⟩⟩
theorem gt_RX5_40 : nr_GT RX5 40 0 (fun ρ _ _ _ => .ref (ρ 16)) := ⟨by decide, 5, 5, ⟨RX5, TX5, 10, rfl, nr_u5, by decide, Or.inl wf_RX5_40⟩, fun _ _ _ _ _ _ => ⟨_, rfl, rfl⟩⟩
theorem gt_RX5_48 : nr_GT RX5 48 0 (fun ρ _ _ _ => .ref (ρ 19)) := ⟨by decide, 5, 6, ⟨RX5, TX5, 10, rfl, nr_u5, by decide, Or.inl wf_RX5_48⟩, fun _ _ _ _ _ _ => ⟨_, rfl, rfl⟩⟩
theorem gt_RX5_167 : nr_GT RX5 167 0 (fun _ _ _ z => .int (z 0)) := ⟨by decide, 5, 7, ⟨RX5, TX5, 10, rfl, nr_u5, by decide, Or.inl wf_RX5_167⟩, fun _ _ _ _ _ _ => ⟨_, rfl, rfl⟩⟩
theorem pt_RX5_167 : nr_PT RX5 167 0 0 .int := ⟨by decide, 5, 7, ⟨RX5, TX5, 10, tyX5, rfl, nr_u5, tyX5_ok, nmX5, by decide, wf_RX5_167, rfl, by decide +kernel⟩, fun _ _ _ _ _ _ => ⟨_, rfl, Nat.le_of_ble_eq_true rfl, fun v q hq => match q, hq with | 0, _ => rfl | 1, _ => rfl | 2, _ => rfl | 3, _ => rfl | 4, _ => rfl | 5, _ => rfl | 6, _ => rfl | 7, _ => rfl | 8, _ => rfl | 9, _ => rfl | 10, _ => rfl | 11, _ => rfl | 12, _ => rfl | 13, _ => rfl | 14, _ => rfl | 15, _ => rfl | 16, _ => rfl | 17, _ => rfl | 18, _ => rfl | 19, _ => rfl | 20, _ => rfl | 21, _ => rfl | 22, _ => rfl | 23, _ => rfl | 24, _ => rfl | 25, _ => rfl | 26, _ => rfl | 27, _ => rfl | 28, _ => rfl | 29, _ => rfl | 30, _ => rfl | 31, _ => rfl | 32, _ => rfl | 33, _ => rfl | 34, _ => rfl | 35, _ => rfl | n + 36, q => absurd q (by omega)⟩⟩
theorem gt_RX5_171 : nr_GT RX5 171 0 (fun _ _ _ z => .int (z 1)) := ⟨by decide, 5, 8, ⟨RX5, TX5, 10, rfl, nr_u5, by decide, Or.inl wf_RX5_171⟩, fun _ _ _ _ _ _ => ⟨_, rfl, rfl⟩⟩
theorem pt_RX5_171 : nr_PT RX5 171 0 1 .int := ⟨by decide, 5, 8, ⟨RX5, TX5, 10, tyX5, rfl, nr_u5, tyX5_ok, nmX5, by decide, wf_RX5_171, rfl, by decide +kernel⟩, fun _ _ _ _ _ _ => ⟨_, rfl, Nat.le_of_ble_eq_true rfl, fun v q hq => match q, hq with | 0, _ => rfl | 1, _ => rfl | 2, _ => rfl | 3, _ => rfl | 4, _ => rfl | 5, _ => rfl | 6, _ => rfl | 7, _ => rfl | 8, _ => rfl | 9, _ => rfl | 10, _ => rfl | 11, _ => rfl | 12, _ => rfl | 13, _ => rfl | 14, _ => rfl | 15, _ => rfl | 16, _ => rfl | 17, _ => rfl | 18, _ => rfl | 19, _ => rfl | 20, _ => rfl | 21, _ => rfl | 22, _ => rfl | 23, _ => rfl | 24, _ => rfl | 25, _ => rfl | 26, _ => rfl | 27, _ => rfl | 28, _ => rfl | 29, _ => rfl | 30, _ => rfl | 31, _ => rfl | 32, _ => rfl | 33, _ => rfl | 34, _ => rfl | 35, _ => rfl | n + 36, q => absurd q (by omega)⟩⟩
theorem gt_RX5_174 : nr_GT RX5 174 0 (fun _ _ _ z => .int (z 2)) := ⟨by decide, 5, 9, ⟨RX5, TX5, 10, rfl, nr_u5, by decide, Or.inl wf_RX5_174⟩, fun _ _ _ _ _ _ => ⟨_, rfl, rfl⟩⟩
theorem pt_RX5_174 : nr_PT RX5 174 0 2 .int := ⟨by decide, 5, 9, ⟨RX5, TX5, 10, tyX5, rfl, nr_u5, tyX5_ok, nmX5, by decide, wf_RX5_174, rfl, by decide +kernel⟩, fun _ _ _ _ _ _ => ⟨_, rfl, Nat.le_of_ble_eq_true rfl, fun v q hq => match q, hq with | 0, _ => rfl | 1, _ => rfl | 2, _ => rfl | 3, _ => rfl | 4, _ => rfl | 5, _ => rfl | 6, _ => rfl | 7, _ => rfl | 8, _ => rfl | 9, _ => rfl | 10, _ => rfl | 11, _ => rfl | 12, _ => rfl | 13, _ => rfl | 14, _ => rfl | 15, _ => rfl | 16, _ => rfl | 17, _ => rfl | 18, _ => rfl | 19, _ => rfl | 20, _ => rfl | 21, _ => rfl | 22, _ => rfl | 23, _ => rfl | 24, _ => rfl | 25, _ => rfl | 26, _ => rfl | 27, _ => rfl | 28, _ => rfl | 29, _ => rfl | 30, _ => rfl | 31, _ => rfl | 32, _ => rfl | 33, _ => rfl | 34, _ => rfl | 35, _ => rfl | n + 36, q => absurd q (by omega)⟩⟩
theorem gt_RX6_7 : nr_GT RX6 7 20 (fun ρ _ _ _ => .ref (ρ 21)) := ⟨by decide, 6, 0, ⟨RX6, TX6, 36, rfl, nr_u6, by decide, Or.inl wf_RX6_7⟩, fun _ _ _ _ _ _ => ⟨_, rfl, rfl⟩⟩
theorem gt_RX6_13 : nr_GT RX6 13 20 (fun ρ _ _ _ => .ref (ρ 22)) := ⟨by decide, 6, 1, ⟨RX6, TX6, 36, rfl, nr_u6, by decide, Or.inl wf_RX6_13⟩, fun _ _ _ _ _ _ => ⟨_, rfl, rfl⟩⟩
theorem gt_RX6_16 : nr_GT RX6 16 20 (fun ρ _ _ _ => .ref (ρ 23)) := ⟨by decide, 6, 3, ⟨RX6, TX6, 36, rfl, nr_u6, by decide, Or.inl wf_RX6_16⟩, fun _ _ _ _ _ _ => ⟨_, rfl, rfl⟩⟩
theorem gt_RX6_19 : nr_GT RX6 19 20 (fun ρ _ _ _ => .ref (ρ 24)) := ⟨by decide, 6, 4, ⟨RX6, TX6, 36, rfl, nr_u6, by decide, Or.inl wf_RX6_19⟩, fun _ _ _ _ _ _ => ⟨_, rfl, rfl⟩⟩
theorem gt_RX6_22 : nr_GT RX6 22 20 (fun ρ _ _ _ => .ref (ρ 25)) := ⟨by decide, 6, 6, ⟨RX6, TX6, 36, rfl, nr_u6, by decide, Or.inl wf_RX6_22⟩, fun _ _ _ _ _ _ => ⟨_, rfl, rfl⟩⟩
theorem gt_RX6_25 : nr_GT RX6 25 20 (fun ρ _ _ _ => .ref (ρ 26)) := ⟨by decide, 6, 7, ⟨RX6, TX6, 36, rfl, nr_u6, by decide, Or.inl wf_RX6_25⟩, fun _ _ _ _ _ _ => ⟨_, rfl, rfl⟩⟩
theorem gt_RX6_28 : nr_GT RX6 28 20 (fun ρ _ _ _ => .ref (ρ 27)) := ⟨by decide, 6, 12, ⟨RX6, TX6, 36, rfl, nr_u6, by decide, Or.inl wf_RX6_28⟩, fun _ _ _ _ _ _ => ⟨_, rfl, rfl⟩⟩
theorem gt_RX6_31 : nr_GT RX6 31 20 (fun ρ _ _ _ => .ref (ρ 28)) := ⟨by decide, 6, 13, ⟨RX6, TX6, 36, rfl, nr_u6, by decide, Or.inl wf_RX6_31⟩, fun _ _ _ _ _ _ => ⟨_, rfl, rfl⟩⟩
theorem gt_RX6_34 : nr_GT RX6 34 20 (fun ρ _ _ _ => .ref (ρ 29)) := ⟨by decide, 6, 23, ⟨RX6, TX6, 36, rfl, nr_u6, by decide, Or.inl wf_RX6_34⟩, fun _ _ _ _ _ _ => ⟨_, rfl, rfl⟩⟩
theorem gt_RX6_37 : nr_GT RX6 37 20 (fun ρ _ _ _ => .ref (ρ 30)) := ⟨by decide, 6, 24, ⟨RX6, TX6, 36, rfl, nr_u6, by decide, Or.inl wf_RX6_37⟩, fun _ _ _ _ _ _ => ⟨_, rfl, rfl⟩⟩
theorem gt_RX6_40 : nr_GT RX6 40 20 (fun ρ _ _ _ => .ref (ρ 31)) := ⟨by decide, 6, 25, ⟨RX6, TX6, 36, rfl, nr_u6, by decide, Or.inl wf_RX6_40⟩, fun _ _ _ _ _ _ => ⟨_, rfl, rfl⟩⟩
theorem gt_RX6_43 : nr_GT RX6 43 20 (fun ρ _ _ _ => .ref (ρ 32)) := ⟨by decide, 6, 26, ⟨RX6, TX6, 36, rfl, nr_u6, by decide, Or.inl wf_RX6_43⟩, fun _ _ _ _ _ _ => ⟨_, rfl, rfl⟩⟩
theorem gt_RX6_47 : nr_GT RX6 47 20 (fun ρ _ _ _ => .ref (ρ 33)) := ⟨by decide, 6, 30, ⟨RX6, TX6, 36, rfl, nr_u6, by decide, Or.inl wf_RX6_47⟩, fun _ _ _ _ _ _ => ⟨_, rfl, rfl⟩⟩
theorem gt_RX6_50 : nr_GT RX6 50 20 (fun _ _ _ z => .int (z 38)) := ⟨by decide, 6, 31, ⟨RX6, TX6, 36, rfl, nr_u6, by decide, Or.inl wf_RX6_50⟩, fun _ _ _ _ _ _ => ⟨_, rfl, rfl⟩⟩
theorem pt_RX6_50 : nr_PT RX6 50 20 38 .int := ⟨by decide, 6, 31, ⟨RX6, TX6, 36, tyX6, rfl, nr_u6, tyX6_ok, nmX6, by decide, wf_RX6_50, rfl, by decide +kernel⟩, fun _ _ _ _ _ _ => ⟨_, rfl, Nat.le_of_ble_eq_true rfl, fun v q hq => match q, hq with | 0, _ => rfl | 1, _ => rfl | 2, _ => rfl | 3, _ => rfl | 4, _ => rfl | 5, _ => rfl | 6, _ => rfl | 7, _ => rfl | 8, _ => rfl | 9, _ => rfl | 10, _ => rfl | 11, _ => rfl | 12, _ => rfl | 13, _ => rfl | 14, _ => rfl | 15, _ => rfl | 16, _ => rfl | 17, _ => rfl | 18, _ => rfl | 19, _ => rfl | 20, _ => rfl | 21, _ => rfl | 22, _ => rfl | 23, _ => rfl | 24, _ => rfl | 25, _ => rfl | 26, _ => rfl | 27, _ => rfl | 28, _ => rfl | 29, _ => rfl | 30, _ => rfl | 31, _ => rfl | 32, _ => rfl | 33, _ => rfl | 34, _ => rfl | 35, _ => rfl | n + 36, q => absurd q (by omega)⟩⟩
theorem gt_RX6_54 : nr_GT RX6 54 20 (fun ρ _ _ _ => .ref (ρ 34)) := ⟨by decide, 6, 32, ⟨RX6, TX6, 36, rfl, nr_u6, by decide, Or.inl wf_RX6_54⟩, fun _ _ _ _ _ _ => ⟨_, rfl, rfl⟩⟩
theorem gt_RX6_57 : nr_GT RX6 57 20 (fun ρ _ _ _ => .ref (ρ 35)) := ⟨by decide, 6, 35, ⟨RX6, TX6, 36, rfl, nr_u6, by decide, Or.inl wf_RX6_57⟩, fun _ _ _ _ _ _ => ⟨_, rfl, rfl⟩⟩
theorem gt_RX6_66 : nr_GT RX6 66 20 (fun _ _ _ z => .int (z 20)) := ⟨by decide, 6, 2, ⟨RX6, TX6, 36, rfl, nr_u6, by decide, Or.inl wf_RX6_66⟩, fun _ _ _ _ _ _ => ⟨_, rfl, rfl⟩⟩
theorem pt_RX6_66 : nr_PT RX6 66 20 20 .int := ⟨by decide, 6, 2, ⟨RX6, TX6, 36, tyX6, rfl, nr_u6, tyX6_ok, nmX6, by decide, wf_RX6_66, rfl, by decide +kernel⟩, fun _ _ _ _ _ _ => ⟨_, rfl, Nat.le_of_ble_eq_true rfl, fun v q hq => match q, hq with | 0, _ => rfl | 1, _ => rfl | 2, _ => rfl | 3, _ => rfl | 4, _ => rfl | 5, _ => rfl | 6, _ => rfl | 7, _ => rfl | 8, _ => rfl | 9, _ => rfl | 10, _ => rfl | 11, _ => rfl | 12, _ => rfl | 13, _ => rfl | 14, _ => rfl | 15, _ => rfl | 16, _ => rfl | 17, _ => rfl | 18, _ => rfl | 19, _ => rfl | 20, _ => rfl | 21, _ => rfl | 22, _ => rfl | 23, _ => rfl | 24, _ => rfl | 25, _ => rfl | 26, _ => rfl | 27, _ => rfl | 28, _ => rfl | 29, _ => rfl | 30, _ => rfl | 31, _ => rfl | 32, _ => rfl | 33, _ => rfl | 34, _ => rfl | 35, _ => rfl | n + 36, q => absurd q (by omega)⟩⟩
theorem gt_RX6_107 : nr_GT RX6 107 20 (fun _ _ _ z => .int (z 21)) := ⟨by decide, 6, 5, ⟨RX6, TX6, 36, rfl, nr_u6, by decide, Or.inl wf_RX6_107⟩, fun _ _ _ _ _ _ => ⟨_, rfl, rfl⟩⟩
theorem pt_RX6_107 : nr_PT RX6 107 20 21 .int := ⟨by decide, 6, 5, ⟨RX6, TX6, 36, tyX6, rfl, nr_u6, tyX6_ok, nmX6, by decide, wf_RX6_107, rfl, by decide +kernel⟩, fun _ _ _ _ _ _ => ⟨_, rfl, Nat.le_of_ble_eq_true rfl, fun v q hq => match q, hq with | 0, _ => rfl | 1, _ => rfl | 2, _ => rfl | 3, _ => rfl | 4, _ => rfl | 5, _ => rfl | 6, _ => rfl | 7, _ => rfl | 8, _ => rfl | 9, _ => rfl | 10, _ => rfl | 11, _ => rfl | 12, _ => rfl | 13, _ => rfl | 14, _ => rfl | 15, _ => rfl | 16, _ => rfl | 17, _ => rfl | 18, _ => rfl | 19, _ => rfl | 20, _ => rfl | 21, _ => rfl | 22, _ => rfl | 23, _ => rfl | 24, _ => rfl | 25, _ => rfl | 26, _ => rfl | 27, _ => rfl | 28, _ => rfl | 29, _ => rfl | 30, _ => rfl | 31, _ => rfl | 32, _ => rfl | 33, _ => rfl | 34, _ => rfl | 35, _ => rfl | n + 36, q => absurd q (by omega)⟩⟩
theorem gt_RX6_113 : nr_GT RX6 113 20 (fun _ _ _ z => .int (z 25)) := ⟨by decide, 6, 11, ⟨RX6, TX6, 36, rfl, nr_u6, by decide, Or.inl wf_RX6_113⟩, fun _ _ _ _ _ _ => ⟨_, rfl, rfl⟩⟩
theorem pt_RX6_113 : nr_PT RX6 113 20 25 .int := ⟨by decide, 6, 11, ⟨RX6, TX6, 36, tyX6, rfl, nr_u6, tyX6_ok, nmX6, by decide, wf_RX6_113, rfl, by decide +kernel⟩, fun _ _ _ _ _ _ => ⟨_, rfl, Nat.le_of_ble_eq_true rfl, fun v q hq => match q, hq with | 0, _ => rfl | 1, _ => rfl | 2, _ => rfl | 3, _ => rfl | 4, _ => rfl | 5, _ => rfl | 6, _ => rfl | 7, _ => rfl | 8, _ => rfl | 9, _ => rfl | 10, _ => rfl | 11, _ => rfl | 12, _ => rfl | 13, _ => rfl | 14, _ => rfl | 15, _ => rfl | 16, _ => rfl | 17, _ => rfl | 18, _ => rfl | 19, _ => rfl | 20, _ => rfl | 21, _ => rfl | 22, _ => rfl | 23, _ => rfl | 24, _ => rfl | 25, _ => rfl | 26, _ => rfl | 27, _ => rfl | 28, _ => rfl | 29, _ => rfl | 30, _ => rfl | 31, _ => rfl | 32, _ => rfl | 33, _ => rfl | 34, _ => rfl | 35, _ => rfl | n + 36, q => absurd q (by omega)⟩⟩
theorem gt_RX6_123 : nr_GT RX6 123 20 (fun _ _ _ z => .int (z 22)) := ⟨by decide, 6, 8, ⟨RX6, TX6, 36, rfl, nr_u6, by decide, Or.inl wf_RX6_123⟩, fun _ _ _ _ _ _ => ⟨_, rfl, rfl⟩⟩
theorem pt_RX6_123 : nr_PT RX6 123 20 22 .int := ⟨by decide, 6, 8, ⟨RX6, TX6, 36, tyX6, rfl, nr_u6, tyX6_ok, nmX6, by decide, wf_RX6_123, rfl, by decide +kernel⟩, fun _ _ _ _ _ _ => ⟨_, rfl, Nat.le_of_ble_eq_true rfl, fun v q hq => match q, hq with | 0, _ => rfl | 1, _ => rfl | 2, _ => rfl | 3, _ => rfl | 4, _ => rfl | 5, _ => rfl | 6, _ => rfl | 7, _ => rfl | 8, _ => rfl | 9, _ => rfl | 10, _ => rfl | 11, _ => rfl | 12, _ => rfl | 13, _ => rfl | 14, _ => rfl | 15, _ => rfl | 16, _ => rfl | 17, _ => rfl | 18, _ => rfl | 19, _ => rfl | 20, _ => rfl | 21, _ => rfl | 22, _ => rfl | 23, _ => rfl | 24, _ => rfl | 25, _ => rfl | 26, _ => rfl | 27, _ => rfl | 28, _ => rfl | 29, _ => rfl | 30, _ => rfl | 31, _ => rfl | 32, _ => rfl | 33, _ => rfl | 34, _ => rfl | 35, _ => rfl | n + 36, q => absurd q (by omega)⟩⟩
theorem gt_RX6_126 : nr_GT RX6 126 20 (fun _ _ _ z => .int (z 23)) := ⟨by decide, 6, 9, ⟨RX6, TX6, 36, rfl, nr_u6, by decide, Or.inl wf_RX6_126⟩, fun _ _ _ _ _ _ => ⟨_, rfl, rfl⟩⟩
theorem pt_RX6_126 : nr_PT RX6 126 20 23 .int := ⟨by decide, 6, 9, ⟨RX6, TX6, 36, tyX6, rfl, nr_u6, tyX6_ok, nmX6, by decide, wf_RX6_126, rfl, by decide +kernel⟩, fun _ _ _ _ _ _ => ⟨_, rfl, Nat.le_of_ble_eq_true rfl, fun v q hq => match q, hq with | 0, _ => rfl | 1, _ => rfl | 2, _ => rfl | 3, _ => rfl | 4, _ => rfl | 5, _ => rfl | 6, _ => rfl | 7, _ => rfl | 8, _ => rfl | 9, _ => rfl | 10, _ => rfl | 11, _ => rfl | 12, _ => rfl | 13, _ => rfl | 14, _ => rfl | 15, _ => rfl | 16, _ => rfl | 17, _ => rfl | 18, _ => rfl | 19, _ => rfl | 20, _ => rfl | 21, _ => rfl | 22, _ => rfl | 23, _ => rfl | 24, _ => rfl | 25, _ => rfl | 26, _ => rfl | 27, _ => rfl | 28, _ => rfl | 29, _ => rfl | 30, _ => rfl | 31, _ => rfl | 32, _ => rfl | 33, _ => rfl | 34, _ => rfl | 35, _ => rfl | n + 36, q => absurd q (by omega)⟩⟩
theorem gt_RX6_129 : nr_GT RX6 129 20 (fun _ _ _ z => .int (z 24)) := ⟨by decide, 6, 10, ⟨RX6, TX6, 36, rfl, nr_u6, by decide, Or.inl wf_RX6_129⟩, fun _ _ _ _ _ _ => ⟨_, rfl, rfl⟩⟩
theorem pt_RX6_129 : nr_PT RX6 129 20 24 .int := ⟨by decide, 6, 10, ⟨RX6, TX6, 36, tyX6, rfl, nr_u6, tyX6_ok, nmX6, by decide, wf_RX6_129, rfl, by decide +kernel⟩, fun _ _ _ _ _ _ => ⟨_, rfl, Nat.le_of_ble_eq_true rfl, fun v q hq => match q, hq with | 0, _ => rfl | 1, _ => rfl | 2, _ => rfl | 3, _ => rfl | 4, _ => rfl | 5, _ => rfl | 6, _ => rfl | 7, _ => rfl | 8, _ => rfl | 9, _ => rfl | 10, _ => rfl | 11, _ => rfl | 12, _ => rfl | 13, _ => rfl | 14, _ => rfl | 15, _ => rfl | 16, _ => rfl | 17, _ => rfl | 18, _ => rfl | 19, _ => rfl | 20, _ => rfl | 21, _ => rfl | 22, _ => rfl | 23, _ => rfl | 24, _ => rfl | 25, _ => rfl | 26, _ => rfl | 27, _ => rfl | 28, _ => rfl | 29, _ => rfl | 30, _ => rfl | 31, _ => rfl | 32, _ => rfl | 33, _ => rfl | 34, _ => rfl | 35, _ => rfl | n + 36, q => absurd q (by omega)⟩⟩
theorem gt_RX6_142 : nr_GT RX6 142 20 (fun _ _ _ z => .int (z 26)) := ⟨by decide, 6, 14, ⟨RX6, TX6, 36, rfl, nr_u6, by decide, Or.inl wf_RX6_142⟩, fun _ _ _ _ _ _ => ⟨_, rfl, rfl⟩⟩
theorem pt_RX6_142 : nr_PT RX6 142 20 26 .int := ⟨by decide, 6, 14, ⟨RX6, TX6, 36, tyX6, rfl, nr_u6, tyX6_ok, nmX6, by decide, wf_RX6_142, rfl, by decide +kernel⟩, fun _ _ _ _ _ _ => ⟨_, rfl, Nat.le_of_ble_eq_true rfl, fun v q hq => match q, hq with | 0, _ => rfl | 1, _ => rfl | 2, _ => rfl | 3, _ => rfl | 4, _ => rfl | 5, _ => rfl | 6, _ => rfl | 7, _ => rfl | 8, _ => rfl | 9, _ => rfl | 10, _ => rfl | 11, _ => rfl | 12, _ => rfl | 13, _ => rfl | 14, _ => rfl | 15, _ => rfl | 16, _ => rfl | 17, _ => rfl | 18, _ => rfl | 19, _ => rfl | 20, _ => rfl | 21, _ => rfl | 22, _ => rfl | 23, _ => rfl | 24, _ => rfl | 25, _ => rfl | 26, _ => rfl | 27, _ => rfl | 28, _ => rfl | 29, _ => rfl | 30, _ => rfl | 31, _ => rfl | 32, _ => rfl | 33, _ => rfl | 34, _ => rfl | 35, _ => rfl | n + 36, q => absurd q (by omega)⟩⟩
theorem gt_RX6_145 : nr_GT RX6 145 20 (fun _ _ _ z => .int (z 30)) := ⟨by decide, 6, 18, ⟨RX6, TX6, 36, rfl, nr_u6, by decide, Or.inl wf_RX6_145⟩, fun _ _ _ _ _ _ => ⟨_, rfl, rfl⟩⟩
theorem pt_RX6_145 : nr_PT RX6 145 20 30 .int := ⟨by decide, 6, 18, ⟨RX6, TX6, 36, tyX6, rfl, nr_u6, tyX6_ok, nmX6, by decide, wf_RX6_145, rfl, by decide +kernel⟩, fun _ _ _ _ _ _ => ⟨_, rfl, Nat.le_of_ble_eq_true rfl, fun v q hq => match q, hq with | 0, _ => rfl | 1, _ => rfl | 2, _ => rfl | 3, _ => rfl | 4, _ => rfl | 5, _ => rfl | 6, _ => rfl | 7, _ => rfl | 8, _ => rfl | 9, _ => rfl | 10, _ => rfl | 11, _ => rfl | 12, _ => rfl | 13, _ => rfl | 14, _ => rfl | 15, _ => rfl | 16, _ => rfl | 17, _ => rfl | 18, _ => rfl | 19, _ => rfl | 20, _ => rfl | 21, _ => rfl | 22, _ => rfl | 23, _ => rfl | 24, _ => rfl | 25, _ => rfl | 26, _ => rfl | 27, _ => rfl | 28, _ => rfl | 29, _ => rfl | 30, _ => rfl | 31, _ => rfl | 32, _ => rfl | 33, _ => rfl | 34, _ => rfl | 35, _ => rfl | n + 36, q => absurd q (by omega)⟩⟩
theorem gt_RX6_148 : nr_GT RX6 148 20 (fun _ _ _ z => .int (z 36)) := ⟨by decide, 6, 28, ⟨RX6, TX6, 36, rfl, nr_u6, by decide, Or.inl wf_RX6_148⟩, fun _ _ _ _ _ _ => ⟨_, rfl, rfl⟩⟩
theorem pt_RX6_148 : nr_PT RX6 148 20 36 .int := ⟨by decide, 6, 28, ⟨RX6, TX6, 36, tyX6, rfl, nr_u6, tyX6_ok, nmX6, by decide, wf_RX6_148, rfl, by decide +kernel⟩, fun _ _ _ _ _ _ => ⟨_, rfl, Nat.le_of_ble_eq_true rfl, fun v q hq => match q, hq with | 0, _ => rfl | 1, _ => rfl | 2, _ => rfl | 3, _ => rfl | 4, _ => rfl | 5, _ => rfl | 6, _ => rfl | 7, _ => rfl | 8, _ => rfl | 9, _ => rfl | 10, _ => rfl | 11, _ => rfl | 12, _ => rfl | 13, _ => rfl | 14, _ => rfl | 15, _ => rfl | 16, _ => rfl | 17, _ => rfl | 18, _ => rfl | 19, _ => rfl | 20, _ => rfl | 21, _ => rfl | 22, _ => rfl | 23, _ => rfl | 24, _ => rfl | 25, _ => rfl | 26, _ => rfl | 27, _ => rfl | 28, _ => rfl | 29, _ => rfl | 30, _ => rfl | 31, _ => rfl | 32, _ => rfl | 33, _ => rfl | 34, _ => rfl | 35, _ => rfl | n + 36, q => absurd q (by omega)⟩⟩
theorem gt_RX6_151 : nr_GT RX6 151 20 (fun _ _ _ z => .int (z 31)) := ⟨by decide, 6, 19, ⟨RX6, TX6, 36, rfl, nr_u6, by decide, Or.inl wf_RX6_151⟩, fun _ _ _ _ _ _ => ⟨_, rfl, rfl⟩⟩
theorem pt_RX6_151 : nr_PT RX6 151 20 31 .int := ⟨by decide, 6, 19, ⟨RX6, TX6, 36, tyX6, rfl, nr_u6, tyX6_ok, nmX6, by decide, wf_RX6_151, rfl, by decide +kernel⟩, fun _ _ _ _ _ _ => ⟨_, rfl, Nat.le_of_ble_eq_true rfl, fun v q hq => match q, hq with | 0, _ => rfl | 1, _ => rfl | 2, _ => rfl | 3, _ => rfl | 4, _ => rfl | 5, _ => rfl | 6, _ => rfl | 7, _ => rfl | 8, _ => rfl | 9, _ => rfl | 10, _ => rfl | 11, _ => rfl | 12, _ => rfl | 13, _ => rfl | 14, _ => rfl | 15, _ => rfl | 16, _ => rfl | 17, _ => rfl | 18, _ => rfl | 19, _ => rfl | 20, _ => rfl | 21, _ => rfl | 22, _ => rfl | 23, _ => rfl | 24, _ => rfl | 25, _ => rfl | 26, _ => rfl | 27, _ => rfl | 28, _ => rfl | 29, _ => rfl | 30, _ => rfl | 31, _ => rfl | 32, _ => rfl | 33, _ => rfl | 34, _ => rfl | 35, _ => rfl | n + 36, q => absurd q (by omega)⟩⟩
theorem gt_RX6_154 : nr_GT RX6 154 20 (fun _ _ _ z => .int (z 32)) := ⟨by decide, 6, 20, ⟨RX6, TX6, 36, rfl, nr_u6, by decide, Or.inl wf_RX6_154⟩, fun _ _ _ _ _ _ => ⟨_, rfl, rfl⟩⟩
theorem pt_RX6_154 : nr_PT RX6 154 20 32 .int := ⟨by decide, 6, 20, ⟨RX6, TX6, 36, tyX6, rfl, nr_u6, tyX6_ok, nmX6, by decide, wf_RX6_154, rfl, by decide +kernel⟩, fun _ _ _ _ _ _ => ⟨_, rfl, Nat.le_of_ble_eq_true rfl, fun v q hq => match q, hq with | 0, _ => rfl | 1, _ => rfl | 2, _ => rfl | 3, _ => rfl | 4, _ => rfl | 5, _ => rfl | 6, _ => rfl | 7, _ => rfl | 8, _ => rfl | 9, _ => rfl | 10, _ => rfl | 11, _ => rfl | 12, _ => rfl | 13, _ => rfl | 14, _ => rfl | 15, _ => rfl | 16, _ => rfl | 17, _ => rfl | 18, _ => rfl | 19, _ => rfl | 20, _ => rfl | 21, _ => rfl | 22, _ => rfl | 23, _ => rfl | 24, _ => rfl | 25, _ => rfl | 26, _ => rfl | 27, _ => rfl | 28, _ => rfl | 29, _ => rfl | 30, _ => rfl | 31, _ => rfl | 32, _ => rfl | 33, _ => rfl | 34, _ => rfl | 35, _ => rfl | n + 36, q => absurd q (by omega)⟩⟩
theorem gt_RX6_157 : nr_GT RX6 157 20 (fun _ _ _ z => .int (z 33)) := ⟨by decide, 6, 21, ⟨RX6, TX6, 36, rfl, nr_u6, by decide, Or.inl wf_RX6_157⟩, fun _ _ _ _ _ _ => ⟨_, rfl, rfl⟩⟩
theorem pt_RX6_157 : nr_PT RX6 157 20 33 .int := ⟨by decide, 6, 21, ⟨RX6, TX6, 36, tyX6, rfl, nr_u6, tyX6_ok, nmX6, by decide, wf_RX6_157, rfl, by decide +kernel⟩, fun _ _ _ _ _ _ => ⟨_, rfl, Nat.le_of_ble_eq_true rfl, fun v q hq => match q, hq with | 0, _ => rfl | 1, _ => rfl | 2, _ => rfl | 3, _ => rfl | 4, _ => rfl | 5, _ => rfl | 6, _ => rfl | 7, _ => rfl | 8, _ => rfl | 9, _ => rfl | 10, _ => rfl | 11, _ => rfl | 12, _ => rfl | 13, _ => rfl | 14, _ => rfl | 15, _ => rfl | 16, _ => rfl | 17, _ => rfl | 18, _ => rfl | 19, _ => rfl | 20, _ => rfl | 21, _ => rfl | 22, _ => rfl | 23, _ => rfl | 24, _ => rfl | 25, _ => rfl | 26, _ => rfl | 27, _ => rfl | 28, _ => rfl | 29, _ => rfl | 30, _ => rfl | 31, _ => rfl | 32, _ => rfl | 33, _ => rfl | 34, _ => rfl | 35, _ => rfl | n + 36, q => absurd q (by omega)⟩⟩
theorem gt_RX6_160 : nr_GT RX6 160 20 (fun _ _ _ z => .int (z 34)) := ⟨by decide, 6, 22, ⟨RX6, TX6, 36, rfl, nr_u6, by decide, Or.inl wf_RX6_160⟩, fun _ _ _ _ _ _ => ⟨_, rfl, rfl⟩⟩
theorem pt_RX6_160 : nr_PT RX6 160 20 34 .int := ⟨by decide, 6, 22, ⟨RX6, TX6, 36, tyX6, rfl, nr_u6, tyX6_ok, nmX6, by decide, wf_RX6_160, rfl, by decide +kernel⟩, fun _ _ _ _ _ _ => ⟨_, rfl, Nat.le_of_ble_eq_true rfl, fun v q hq => match q, hq with | 0, _ => rfl | 1, _ => rfl | 2, _ => rfl | 3, _ => rfl | 4, _ => rfl | 5, _ => rfl | 6, _ => rfl | 7, _ => rfl | 8, _ => rfl | 9, _ => rfl | 10, _ => rfl | 11, _ => rfl | 12, _ => rfl | 13, _ => rfl | 14, _ => rfl | 15, _ => rfl | 16, _ => rfl | 17, _ => rfl | 18, _ => rfl | 19, _ => rfl | 20, _ => rfl | 21, _ => rfl | 22, _ => rfl | 23, _ => rfl | 24, _ => rfl | 25, _ => rfl | 26, _ => rfl | 27, _ => rfl | 28, _ => rfl | 29, _ => rfl | 30, _ => rfl | 31, _ => rfl | 32, _ => rfl | 33, _ => rfl | 34, _ => rfl | 35, _ => rfl | n + 36, q => absurd q (by omega)⟩⟩
theorem gt_RX6_163 : nr_GT RX6 163 20 (fun _ _ _ z => .int (z 29)) := ⟨by decide, 6, 17, ⟨RX6, TX6, 36, rfl, nr_u6, by decide, Or.inl wf_RX6_163⟩, fun _ _ _ _ _ _ => ⟨_, rfl, rfl⟩⟩
theorem pt_RX6_163 : nr_PT RX6 163 20 29 .int := ⟨by decide, 6, 17, ⟨RX6, TX6, 36, tyX6, rfl, nr_u6, tyX6_ok, nmX6, by decide, wf_RX6_163, rfl, by decide +kernel⟩, fun _ _ _ _ _ _ => ⟨_, rfl, Nat.le_of_ble_eq_true rfl, fun v q hq => match q, hq with | 0, _ => rfl | 1, _ => rfl | 2, _ => rfl | 3, _ => rfl | 4, _ => rfl | 5, _ => rfl | 6, _ => rfl | 7, _ => rfl | 8, _ => rfl | 9, _ => rfl | 10, _ => rfl | 11, _ => rfl | 12, _ => rfl | 13, _ => rfl | 14, _ => rfl | 15, _ => rfl | 16, _ => rfl | 17, _ => rfl | 18, _ => rfl | 19, _ => rfl | 20, _ => rfl | 21, _ => rfl | 22, _ => rfl | 23, _ => rfl | 24, _ => rfl | 25, _ => rfl | 26, _ => rfl | 27, _ => rfl | 28, _ => rfl | 29, _ => rfl | 30, _ => rfl | 31, _ => rfl | 32, _ => rfl | 33, _ => rfl | 34, _ => rfl | 35, _ => rfl | n + 36, q => absurd q (by omega)⟩⟩
theorem gt_RX6_166 : nr_GT RX6 166 20 (fun _ _ _ z => .int (z 35)) := ⟨by decide, 6, 27, ⟨RX6, TX6, 36, rfl, nr_u6, by decide, Or.inl wf_RX6_166⟩, fun _ _ _ _ _ _ => ⟨_, rfl, rfl⟩⟩
theorem pt_RX6_166 : nr_PT RX6 166 20 35 .int := ⟨by decide, 6, 27, ⟨RX6, TX6, 36, tyX6, rfl, nr_u6, tyX6_ok, nmX6, by decide, wf_RX6_166, rfl, by decide +kernel⟩, fun _ _ _ _ _ _ => ⟨_, rfl, Nat.le_of_ble_eq_true rfl, fun v q hq => match q, hq with | 0, _ => rfl | 1, _ => rfl | 2, _ => rfl | 3, _ => rfl | 4, _ => rfl | 5, _ => rfl | 6, _ => rfl | 7, _ => rfl | 8, _ => rfl | 9, _ => rfl | 10, _ => rfl | 11, _ => rfl | 12, _ => rfl | 13, _ => rfl | 14, _ => rfl | 15, _ => rfl | 16, _ => rfl | 17, _ => rfl | 18, _ => rfl | 19, _ => rfl | 20, _ => rfl | 21, _ => rfl | 22, _ => rfl | 23, _ => rfl | 24, _ => rfl | 25, _ => rfl | 26, _ => rfl | 27, _ => rfl | 28, _ => rfl | 29, _ => rfl | 30, _ => rfl | 31, _ => rfl | 32, _ => rfl | 33, _ => rfl | 34, _ => rfl | 35, _ => rfl | n + 36, q => absurd q (by omega)⟩⟩
theorem gt_RX6_169 : nr_GT RX6 169 20 (fun _ _ _ z => .int (z 37)) := ⟨by decide, 6, 29, ⟨RX6, TX6, 36, rfl, nr_u6, by decide, Or.inl wf_RX6_169⟩, fun _ _ _ _ _ _ => ⟨_, rfl, rfl⟩⟩
theorem pt_RX6_169 : nr_PT RX6 169 20 37 .int := ⟨by decide, 6, 29, ⟨RX6, TX6, 36, tyX6, rfl, nr_u6, tyX6_ok, nmX6, by decide, wf_RX6_169, rfl, by decide +kernel⟩, fun _ _ _ _ _ _ => ⟨_, rfl, Nat.le_of_ble_eq_true rfl, fun v q hq => match q, hq with | 0, _ => rfl | 1, _ => rfl | 2, _ => rfl | 3, _ => rfl | 4, _ => rfl | 5, _ => rfl | 6, _ => rfl | 7, _ => rfl | 8, _ => rfl | 9, _ => rfl | 10, _ => rfl | 11, _ => rfl | 12, _ => rfl | 13, _ => rfl | 14, _ => rfl | 15, _ => rfl | 16, _ => rfl | 17, _ => rfl | 18, _ => rfl | 19, _ => rfl | 20, _ => rfl | 21, _ => rfl | 22, _ => rfl | 23, _ => rfl | 24, _ => rfl | 25, _ => rfl | 26, _ => rfl | 27, _ => rfl | 28, _ => rfl | 29, _ => rfl | 30, _ => rfl | 31, _ => rfl | 32, _ => rfl | 33, _ => rfl | 34, _ => rfl | 35, _ => rfl | n + 36, q => absurd q (by omega)⟩⟩
theorem gt_RX6_186 : nr_GT RX6 186 20 (fun _ _ _ z => .int (z 28)) := ⟨by decide, 6, 16, ⟨RX6, TX6, 36, rfl, nr_u6, by decide, Or.inl wf_RX6_186⟩, fun _ _ _ _ _ _ => ⟨_, rfl, rfl⟩⟩
theorem pt_RX6_186 : nr_PT RX6 186 20 28 .int := ⟨by decide, 6, 16, ⟨RX6, TX6, 36, tyX6, rfl, nr_u6, tyX6_ok, nmX6, by decide, wf_RX6_186, rfl, by decide +kernel⟩, fun _ _ _ _ _ _ => ⟨_, rfl, Nat.le_of_ble_eq_true rfl, fun v q hq => match q, hq with | 0, _ => rfl | 1, _ => rfl | 2, _ => rfl | 3, _ => rfl | 4, _ => rfl | 5, _ => rfl | 6, _ => rfl | 7, _ => rfl | 8, _ => rfl | 9, _ => rfl | 10, _ => rfl | 11, _ => rfl | 12, _ => rfl | 13, _ => rfl | 14, _ => rfl | 15, _ => rfl | 16, _ => rfl | 17, _ => rfl | 18, _ => rfl | 19, _ => rfl | 20, _ => rfl | 21, _ => rfl | 22, _ => rfl | 23, _ => rfl | 24, _ => rfl | 25, _ => rfl | 26, _ => rfl | 27, _ => rfl | 28, _ => rfl | 29, _ => rfl | 30, _ => rfl | 31, _ => rfl | 32, _ => rfl | 33, _ => rfl | 34, _ => rfl | 35, _ => rfl | n + 36, q => absurd q (by omega)⟩⟩
theorem gt_RX6_192 : nr_GT RX6 192 20 (fun _ _ _ z => .int (z 27)) := ⟨by decide, 6, 15, ⟨RX6, TX6, 36, rfl, nr_u6, by decide, Or.inl wf_RX6_192⟩, fun _ _ _ _ _ _ => ⟨_, rfl, rfl⟩⟩
theorem pt_RX6_192 : nr_PT RX6 192 20 27 .int := ⟨by decide, 6, 15, ⟨RX6, TX6, 36, tyX6, rfl, nr_u6, tyX6_ok, nmX6, by decide, wf_RX6_192, rfl, by decide +kernel⟩, fun _ _ _ _ _ _ => ⟨_, rfl, Nat.le_of_ble_eq_true rfl, fun v q hq => match q, hq with | 0, _ => rfl | 1, _ => rfl | 2, _ => rfl | 3, _ => rfl | 4, _ => rfl | 5, _ => rfl | 6, _ => rfl | 7, _ => rfl | 8, _ => rfl | 9, _ => rfl | 10, _ => rfl | 11, _ => rfl | 12, _ => rfl | 13, _ => rfl | 14, _ => rfl | 15, _ => rfl | 16, _ => rfl | 17, _ => rfl | 18, _ => rfl | 19, _ => rfl | 20, _ => rfl | 21, _ => rfl | 22, _ => rfl | 23, _ => rfl | 24, _ => rfl | 25, _ => rfl | 26, _ => rfl | 27, _ => rfl | 28, _ => rfl | 29, _ => rfl | 30, _ => rfl | 31, _ => rfl | 32, _ => rfl | 33, _ => rfl | 34, _ => rfl | 35, _ => rfl | n + 36, q => absurd q (by omega)⟩⟩
theorem gt_RX6_225 : nr_GT RX6 225 20 (fun _ _ _ z => .int (z 40)) := ⟨by decide, 6, 34, ⟨RX6, TX6, 36, rfl, nr_u6, by decide, Or.inl wf_RX6_225⟩, fun _ _ _ _ _ _ => ⟨_, rfl, rfl⟩⟩
theorem pt_RX6_225 : nr_PT RX6 225 20 40 .boolean := ⟨by decide, 6, 34, ⟨RX6, TX6, 36, tyX6, rfl, nr_u6, tyX6_ok, nmX6, by decide, wf_RX6_225, rfl, by decide +kernel⟩, fun _ _ _ _ _ _ => ⟨_, rfl, Nat.le_of_ble_eq_true rfl, fun v q hq => match q, hq with | 0, _ => rfl | 1, _ => rfl | 2, _ => rfl | 3, _ => rfl | 4, _ => rfl | 5, _ => rfl | 6, _ => rfl | 7, _ => rfl | 8, _ => rfl | 9, _ => rfl | 10, _ => rfl | 11, _ => rfl | 12, _ => rfl | 13, _ => rfl | 14, _ => rfl | 15, _ => rfl | 16, _ => rfl | 17, _ => rfl | 18, _ => rfl | 19, _ => rfl | 20, _ => rfl | 21, _ => rfl | 22, _ => rfl | 23, _ => rfl | 24, _ => rfl | 25, _ => rfl | 26, _ => rfl | 27, _ => rfl | 28, _ => rfl | 29, _ => rfl | 30, _ => rfl | 31, _ => rfl | 32, _ => rfl | 33, _ => rfl | 34, _ => rfl | 35, _ => rfl | n + 36, q => absurd q (by omega)⟩⟩
theorem gt_RX6_229 : nr_GT RX6 229 20 (fun _ _ _ z => .int (z 39)) := ⟨by decide, 6, 33, ⟨RX6, TX6, 36, rfl, nr_u6, by decide, Or.inl wf_RX6_229⟩, fun _ _ _ _ _ _ => ⟨_, rfl, rfl⟩⟩
theorem pt_RX6_229 : nr_PT RX6 229 20 39 .int := ⟨by decide, 6, 33, ⟨RX6, TX6, 36, tyX6, rfl, nr_u6, tyX6_ok, nmX6, by decide, wf_RX6_229, rfl, by decide +kernel⟩, fun _ _ _ _ _ _ => ⟨_, rfl, Nat.le_of_ble_eq_true rfl, fun v q hq => match q, hq with | 0, _ => rfl | 1, _ => rfl | 2, _ => rfl | 3, _ => rfl | 4, _ => rfl | 5, _ => rfl | 6, _ => rfl | 7, _ => rfl | 8, _ => rfl | 9, _ => rfl | 10, _ => rfl | 11, _ => rfl | 12, _ => rfl | 13, _ => rfl | 14, _ => rfl | 15, _ => rfl | 16, _ => rfl | 17, _ => rfl | 18, _ => rfl | 19, _ => rfl | 20, _ => rfl | 21, _ => rfl | 22, _ => rfl | 23, _ => rfl | 24, _ => rfl | 25, _ => rfl | 26, _ => rfl | 27, _ => rfl | 28, _ => rfl | 29, _ => rfl | 30, _ => rfl | 31, _ => rfl | 32, _ => rfl | 33, _ => rfl | 34, _ => rfl | 35, _ => rfl | n + 36, q => absurd q (by omega)⟩⟩
theorem ml_yX5_sets : nr_ML yX5_sets cX5_sets 5 (some .int) 3 := ⟨wc_yX5_sets, wn_RX5, ⟨by decide, by decide⟩, by decide +kernel, by decide⟩
theorem lv_RL_13 : nr_LV RL 13 5 yX5_sets cX5_sets 5 (some .int) 3 := ⟨wm_RL_13, wi_yX5_sets, we_yX5_sets, ml_yX5_sets, TX5, 10, rfl⟩
theorem ml_yX6_sets : nr_ML yX6_sets cX6_sets 6 (some .int) 3 := ⟨wc_yX6_sets, wn_RX6, ⟨by decide, by decide⟩, by decide +kernel, by decide⟩
theorem lv_RL_17 : nr_LV RL 17 6 yX6_sets cX6_sets 6 (some .int) 3 := ⟨wm_RL_17, wi_yX6_sets, we_yX6_sets, ml_yX6_sets, TX6, 36, rfl⟩
theorem ml_yX5_of : nr_ML yX5_of cX5_of 3 (some .int) 2 := ⟨wc_yX5_of, wn_RX5, ⟨by decide, by decide⟩, by decide +kernel, by decide⟩
theorem lv_RL_18 : nr_LV RL 18 5 yX5_of cX5_of 3 (some .int) 2 := ⟨wm_RL_18, wi_yX5_of, we_yX5_of, ml_yX5_of, TX5, 10, rfl⟩
theorem ml_yX6_of : nr_ML yX6_of cX6_of 3 (some .int) 2 := ⟨wc_yX6_of, wn_RX6, ⟨by decide, by decide⟩, by decide +kernel, by decide⟩
theorem lv_RL_22 : nr_LV RL 22 6 yX6_of cX6_of 3 (some .int) 2 := ⟨wm_RL_22, wi_yX6_of, we_yX6_of, ml_yX6_of, TX6, 36, rfl⟩
theorem ml_yX5_keys : nr_ML yX5_keys cX5_keys 3 (some .int) 1 := ⟨wc_yX5_keys, wn_RX5, ⟨by decide, by decide⟩, by decide +kernel, by decide⟩
theorem lv_RL_23 : nr_LV RL 23 5 yX5_keys cX5_keys 3 (some .int) 1 := ⟨wm_RL_23, wi_yX5_keys, we_yX5_keys, ml_yX5_keys, TX5, 10, rfl⟩
theorem ml_yX6_keys : nr_ML yX6_keys cX6_keys 3 (some .int) 1 := ⟨wc_yX6_keys, wn_RX6, ⟨by decide, by decide⟩, by decide +kernel, by decide⟩
theorem lv_RL_27 : nr_LV RL 27 6 yX6_keys cX6_keys 3 (some .int) 1 := ⟨wm_RL_27, wi_yX6_keys, we_yX6_keys, ml_yX6_keys, TX6, 36, rfl⟩
theorem ml_yX5_dusk : nr_ML yX5_dusk cX5_dusk 2 (some .int) 0 := ⟨wc_yX5_dusk, wn_RX5, ⟨by decide, by decide⟩, by decide +kernel, by decide⟩
theorem lv_RL_28 : nr_LV RL 28 5 yX5_dusk cX5_dusk 2 (some .int) 0 := ⟨wm_RL_28, wi_yX5_dusk, we_yX5_dusk, ml_yX5_dusk, TX5, 10, rfl⟩
theorem ml_yX6_dusk : nr_ML yX6_dusk cX6_dusk 3 (some .int) 0 := ⟨wc_yX6_dusk, wn_RX6, ⟨by decide, by decide⟩, by decide +kernel, by decide⟩
theorem lv_RL_32 : nr_LV RL 32 6 yX6_dusk cX6_dusk 3 (some .int) 0 := ⟨wm_RL_32, wi_yX6_dusk, we_yX6_dusk, ml_yX6_dusk, TX6, 36, rfl⟩
theorem ml_yX5_type : nr_ML yX5_type cX5_type 2 (some .int) 1 := ⟨wc_yX5_type, wn_RX5, ⟨by decide, by decide⟩, by decide +kernel, by decide⟩
theorem lv_RL_33 : nr_LV RL 33 5 yX5_type cX5_type 2 (some .int) 1 := ⟨wm_RL_33, wi_yX5_type, we_yX5_type, ml_yX5_type, TX5, 10, rfl⟩
theorem ml_yX6_type : nr_ML yX6_type cX6_type 2 (some .int) 1 := ⟨wc_yX6_type, wn_RX6, ⟨by decide, by decide⟩, by decide +kernel, by decide⟩
theorem lv_RL_36 : nr_LV RL 36 6 yX6_type cX6_type 2 (some .int) 1 := ⟨wm_RL_36, wi_yX6_type, we_yX6_type, ml_yX6_type, TX6, 36, rfl⟩
theorem ml_yX5_clear : nr_ML yX5_clear cX5_clear 2 (some .int) 0 := ⟨wc_yX5_clear, wn_RX5, ⟨by decide, by decide⟩, by decide +kernel, by decide⟩
theorem lv_RL_37 : nr_LV RL 37 5 yX5_clear cX5_clear 2 (some .int) 0 := ⟨wm_RL_37, wi_yX5_clear, we_yX5_clear, ml_yX5_clear, TX5, 10, rfl⟩
theorem ml_yX6_clear : nr_ML yX6_clear cX6_clear 2 (some .int) 0 := ⟨wc_yX6_clear, wn_RX6, ⟨by decide, by decide⟩, by decide +kernel, by decide⟩
theorem lv_RL_40 : nr_LV RL 40 6 yX6_clear cX6_clear 2 (some .int) 0 := ⟨wm_RL_40, wi_yX6_clear, we_yX6_clear, ml_yX6_clear, TX6, 36, rfl⟩
theorem ml_yX5_goes : nr_ML yX5_goes cX5_goes 2 (some .int) 0 := ⟨wc_yX5_goes, wn_RX5, ⟨by decide, by decide⟩, by decide +kernel, by decide⟩
theorem lv_RL_41 : nr_LV RL 41 5 yX5_goes cX5_goes 2 (some .int) 0 := ⟨wm_RL_41, wi_yX5_goes, we_yX5_goes, ml_yX5_goes, TX5, 10, rfl⟩
theorem ml_yX6_goes : nr_ML yX6_goes cX6_goes 3 (some .int) 0 := ⟨wc_yX6_goes, wn_RX6, ⟨by decide, by decide⟩, by decide +kernel, by decide⟩
theorem lv_RL_44 : nr_LV RL 44 6 yX6_goes cX6_goes 3 (some .int) 0 := ⟨wm_RL_44, wi_yX6_goes, we_yX6_goes, ml_yX6_goes, TX6, 36, rfl⟩
theorem ml_yX5_tries : nr_ML yX5_tries cX5_tries 2 (some .int) 0 := ⟨wc_yX5_tries, wn_RX5, ⟨by decide, by decide⟩, by decide +kernel, by decide⟩
theorem lv_RL_45 : nr_LV RL 45 5 yX5_tries cX5_tries 2 (some .int) 0 := ⟨wm_RL_45, wi_yX5_tries, we_yX5_tries, ml_yX5_tries, TX5, 10, rfl⟩
theorem ml_yX6_tries : nr_ML yX6_tries cX6_tries 3 (some .int) 0 := ⟨wc_yX6_tries, wn_RX6, ⟨by decide, by decide⟩, by decide +kernel, by decide⟩
theorem lv_RL_48 : nr_LV RL 48 6 yX6_tries cX6_tries 3 (some .int) 0 := ⟨wm_RL_48, wi_yX6_tries, we_yX6_tries, ml_yX6_tries, TX6, 36, rfl⟩
theorem ml_yX5_often : nr_ML yX5_often cX5_often 5 (some .int) 1 := ⟨wc_yX5_often, wn_RX5, ⟨by decide, by decide⟩, by decide +kernel, by decide⟩
theorem lv_RL_49 : nr_LV RL 49 5 yX5_often cX5_often 5 (some .int) 1 := ⟨wm_RL_49, wi_yX5_often, we_yX5_often, ml_yX5_often, TX5, 10, rfl⟩
theorem ml_yX6_often : nr_ML yX6_often cX6_often 6 (some .int) 1 := ⟨wc_yX6_often, wn_RX6, ⟨by decide, by decide⟩, by decide +kernel, by decide⟩
theorem lv_RL_52 : nr_LV RL 52 6 yX6_often cX6_often 6 (some .int) 1 := ⟨wm_RL_52, wi_yX6_often, we_yX6_often, ml_yX6_often, TX6, 36, rfl⟩
theorem ml_yX5_was : nr_ML yX5_was cX5_was 2 (some .int) 1 := ⟨wc_yX5_was, wn_RX5, ⟨by decide, by decide⟩, by decide +kernel, by decide⟩
theorem lv_RL_53 : nr_LV RL 53 5 yX5_was cX5_was 2 (some .int) 1 := ⟨wm_RL_53, wi_yX5_was, we_yX5_was, ml_yX5_was, TX5, 10, rfl⟩
theorem ml_yX6_was : nr_ML yX6_was cX6_was 2 (some .int) 1 := ⟨wc_yX6_was, wn_RX6, ⟨by decide, by decide⟩, by decide +kernel, by decide⟩
theorem lv_RL_56 : nr_LV RL 56 6 yX6_was cX6_was 2 (some .int) 1 := ⟨wm_RL_56, wi_yX6_was, we_yX6_was, ml_yX6_was, TX6, 36, rfl⟩
theorem ml_yX5_root : nr_ML yX5_root cX5_root 1 (some .int) 0 := ⟨wc_yX5_root, wn_RX5, ⟨by decide, by decide⟩, by decide +kernel, by decide⟩
theorem lv_RL_57 : nr_LV RL 57 5 yX5_root cX5_root 1 (some .int) 0 := ⟨wm_RL_57, wi_yX5_root, we_yX5_root, ml_yX5_root, TX5, 10, rfl⟩
theorem ml_yX6_root : nr_ML yX6_root cX6_root 1 (some .int) 0 := ⟨wc_yX6_root, wn_RX6, ⟨by decide, by decide⟩, by decide +kernel, by decide⟩
theorem lv_RL_60 : nr_LV RL 60 6 yX6_root cX6_root 1 (some .int) 0 := ⟨wm_RL_60, wi_yX6_root, we_yX6_root, ml_yX6_root, TX6, 36, rfl⟩
theorem ml_yX5_diary : nr_ML yX5_diary cX5_diary 2 (some .int) 1 := ⟨wc_yX5_diary, wn_RX5, ⟨by decide, by decide⟩, by decide +kernel, by decide⟩
theorem lv_RL_61 : nr_LV RL 61 5 yX5_diary cX5_diary 2 (some .int) 1 := ⟨wm_RL_61, wi_yX5_diary, we_yX5_diary, ml_yX5_diary, TX5, 10, rfl⟩
theorem ml_yX6_diary : nr_ML yX6_diary cX6_diary 2 (some .int) 1 := ⟨wc_yX6_diary, wn_RX6, ⟨by decide, by decide⟩, by decide +kernel, by decide⟩
theorem lv_RL_64 : nr_LV RL 64 6 yX6_diary cX6_diary 2 (some .int) 1 := ⟨wm_RL_64, wi_yX6_diary, we_yX6_diary, ml_yX6_diary, TX6, 36, rfl⟩
theorem ml_yX5_open : nr_ML yX5_open cX5_open 1 (some .int) 0 := ⟨wc_yX5_open, wn_RX5, ⟨by decide, by decide⟩, by decide +kernel, by decide⟩
theorem lv_RL_65 : nr_LV RL 65 5 yX5_open cX5_open 1 (some .int) 0 := ⟨wm_RL_65, wi_yX5_open, we_yX5_open, ml_yX5_open, TX5, 10, rfl⟩
theorem ml_yX6_open : nr_ML yX6_open cX6_open 1 (some .int) 0 := ⟨wc_yX6_open, wn_RX6, ⟨by decide, by decide⟩, by decide +kernel, by decide⟩
theorem lv_RL_68 : nr_LV RL 68 6 yX6_open cX6_open 1 (some .int) 0 := ⟨wm_RL_68, wi_yX6_open, we_yX6_open, ml_yX6_open, TX6, 36, rfl⟩
theorem ml_yX5_fewest : nr_ML yX5_fewest cX5_fewest 3 (some .int) 0 := ⟨wc_yX5_fewest, wn_RX5, ⟨by decide, by decide⟩, by decide +kernel, by decide⟩
theorem lv_RL_69 : nr_LV RL 69 5 yX5_fewest cX5_fewest 3 (some .int) 0 := ⟨wm_RL_69, wi_yX5_fewest, we_yX5_fewest, ml_yX5_fewest, TX5, 10, rfl⟩
theorem ml_yX6_fewest : nr_ML yX6_fewest cX6_fewest 5 (some .int) 0 := ⟨wc_yX6_fewest, wn_RX6, ⟨by decide, by decide⟩, by decide +kernel, by decide⟩
theorem lv_RL_72 : nr_LV RL 72 6 yX6_fewest cX6_fewest 5 (some .int) 0 := ⟨wm_RL_72, wi_yX6_fewest, we_yX6_fewest, ml_yX6_fewest, TX6, 36, rfl⟩
theorem ml_yX5_were : nr_ML yX5_were cX5_were 4 (some .int) 2 := ⟨wc_yX5_were, wn_RX5, ⟨by decide, by decide⟩, by decide +kernel, by decide⟩
theorem lv_RL_73 : nr_LV RL 73 5 yX5_were cX5_were 4 (some .int) 2 := ⟨wm_RL_73, wi_yX5_were, we_yX5_were, ml_yX5_were, TX5, 10, rfl⟩
theorem ml_yX6_were : nr_ML yX6_were cX6_were 5 (some .int) 2 := ⟨wc_yX6_were, wn_RX6, ⟨by decide, by decide⟩, by decide +kernel, by decide⟩
theorem lv_RL_76 : nr_LV RL 76 6 yX6_were cX6_were 5 (some .int) 2 := ⟨wm_RL_76, wi_yX6_were, we_yX6_were, ml_yX6_were, TX6, 36, rfl⟩
theorem ml_yX5_cures : nr_ML yX5_cures cX5_cures 5 (some .int) 1 := ⟨wc_yX5_cures, wn_RX5, ⟨by decide, by decide⟩, by decide +kernel, by decide⟩
theorem lv_RL_77 : nr_LV RL 77 5 yX5_cures cX5_cures 5 (some .int) 1 := ⟨wm_RL_77, wi_yX5_cures, we_yX5_cures, ml_yX5_cures, TX5, 10, rfl⟩
theorem ml_yX6_cures : nr_ML yX6_cures cX6_cures 5 (some .int) 1 := ⟨wc_yX6_cures, wn_RX6, ⟨by decide, by decide⟩, by decide +kernel, by decide⟩
theorem lv_RL_80 : nr_LV RL 80 6 yX6_cures cX6_cures 5 (some .int) 1 := ⟨wm_RL_80, wi_yX6_cures, we_yX6_cures, ml_yX6_cures, TX6, 36, rfl⟩
theorem ml_yX5_ends : nr_ML yX5_ends cX5_ends 5 (some .int) 1 := ⟨wc_yX5_ends, wn_RX5, ⟨by decide, by decide⟩, by decide +kernel, by decide⟩
theorem lv_RL_81 : nr_LV RL 81 5 yX5_ends cX5_ends 5 (some .int) 1 := ⟨wm_RL_81, wi_yX5_ends, we_yX5_ends, ml_yX5_ends, TX5, 10, rfl⟩
theorem ml_yX6_ends : nr_ML yX6_ends cX6_ends 5 (some .int) 1 := ⟨wc_yX6_ends, wn_RX6, ⟨by decide, by decide⟩, by decide +kernel, by decide⟩
theorem lv_RL_84 : nr_LV RL 84 6 yX6_ends cX6_ends 5 (some .int) 1 := ⟨wm_RL_84, wi_yX6_ends, we_yX6_ends, ml_yX6_ends, TX6, 36, rfl⟩
theorem ml_yX5_told : nr_ML yX5_told cX5_told 3 (some .int) 1 := ⟨wc_yX5_told, wn_RX5, ⟨by decide, by decide⟩, by decide +kernel, by decide⟩
theorem lv_RL_85 : nr_LV RL 85 5 yX5_told cX5_told 3 (some .int) 1 := ⟨wm_RL_85, wi_yX5_told, we_yX5_told, ml_yX5_told, TX5, 10, rfl⟩
theorem ml_yX6_told : nr_ML yX6_told cX6_told 3 (some .int) 1 := ⟨wc_yX6_told, wn_RX6, ⟨by decide, by decide⟩, by decide +kernel, by decide⟩
theorem lv_RL_88 : nr_LV RL 88 6 yX6_told cX6_told 3 (some .int) 1 := ⟨wm_RL_88, wi_yX6_told, we_yX6_told, ml_yX6_told, TX6, 36, rfl⟩
theorem ml_yX5_draw : nr_ML yX5_draw cX5_draw 2 (some .int) 1 := ⟨wc_yX5_draw, wn_RX5, ⟨by decide, by decide⟩, by decide +kernel, by decide⟩
theorem lv_RL_89 : nr_LV RL 89 5 yX5_draw cX5_draw 2 (some .int) 1 := ⟨wm_RL_89, wi_yX5_draw, we_yX5_draw, ml_yX5_draw, TX5, 10, rfl⟩
theorem ml_yX6_draw : nr_ML yX6_draw cX6_draw 5 (some .int) 1 := ⟨wc_yX6_draw, wn_RX6, ⟨by decide, by decide⟩, by decide +kernel, by decide⟩
theorem lv_RL_92 : nr_LV RL 92 6 yX6_draw cX6_draw 5 (some .int) 1 := ⟨wm_RL_92, wi_yX6_draw, we_yX6_draw, ml_yX6_draw, TX6, 36, rfl⟩
theorem ml_yX5_back : nr_ML yX5_back cX5_back 1 (some .int) 0 := ⟨wc_yX5_back, wn_RX5, ⟨by decide, by decide⟩, by decide +kernel, by decide⟩
theorem lv_RL_93 : nr_LV RL 93 5 yX5_back cX5_back 1 (some .int) 0 := ⟨wm_RL_93, wi_yX5_back, we_yX5_back, ml_yX5_back, TX5, 10, rfl⟩
theorem ml_yX6_back : nr_ML yX6_back cX6_back 2 (some .int) 0 := ⟨wc_yX6_back, wn_RX6, ⟨by decide, by decide⟩, by decide +kernel, by decide⟩
theorem lv_RL_96 : nr_LV RL 96 6 yX6_back cX6_back 2 (some .int) 0 := ⟨wm_RL_96, wi_yX6_back, we_yX6_back, ml_yX6_back, TX6, 36, rfl⟩
theorem ml_yX5_count : nr_ML yX5_count cX5_count 2 (some .int) 1 := ⟨wc_yX5_count, wn_RX5, ⟨by decide, by decide⟩, by decide +kernel, by decide⟩
theorem lv_RL_97 : nr_LV RL 97 5 yX5_count cX5_count 2 (some .int) 1 := ⟨wm_RL_97, wi_yX5_count, we_yX5_count, ml_yX5_count, TX5, 10, rfl⟩
theorem ml_yX6_count : nr_ML yX6_count cX6_count 2 (some .int) 1 := ⟨wc_yX6_count, wn_RX6, ⟨by decide, by decide⟩, by decide +kernel, by decide⟩
theorem lv_RL_100 : nr_LV RL 100 6 yX6_count cX6_count 2 (some .int) 1 := ⟨wm_RL_100, wi_yX6_count, we_yX6_count, ml_yX6_count, TX6, 36, rfl⟩
theorem ml_yX5_digest : nr_ML yX5_digest cX5_digest 5 (some .long) 0 := ⟨wc_yX5_digest, wn_RX5, ⟨by decide, by decide⟩, by decide +kernel, by decide⟩
theorem lv_RL_101 : nr_LV RL 101 5 yX5_digest cX5_digest 5 (some .long) 0 := ⟨wm_RL_101, wi_yX5_digest, we_yX5_digest, ml_yX5_digest, TX5, 10, rfl⟩
theorem ml_yX6_digest : nr_ML yX6_digest cX6_digest 5 (some .long) 0 := ⟨wc_yX6_digest, wn_RX6, ⟨by decide, by decide⟩, by decide +kernel, by decide⟩
theorem lv_RL_105 : nr_LV RL 105 6 yX6_digest cX6_digest 5 (some .long) 0 := ⟨wm_RL_105, wi_yX6_digest, we_yX6_digest, ml_yX6_digest, TX6, 36, rfl⟩
theorem ml_yX0_setCell : nr_ML yX0_setCell cX0_setCell 5 none 3 := ⟨wc_yX0_setCell, wn_RX0, ⟨by decide, by decide⟩, by decide +kernel, by decide⟩
theorem lv_RX0_15 : nr_LV RX0 15 0 yX0_setCell cX0_setCell 5 none 3 := ⟨wm_RX0_15, wi_yX0_setCell, we_yX0_setCell, ml_yX0_setCell, TX0, 1, rfl⟩
theorem ml_yX0_cell : nr_ML yX0_cell cX0_cell 4 (some .int) 2 := ⟨wc_yX0_cell, wn_RX0, ⟨by decide, by decide⟩, by decide +kernel, by decide⟩
theorem lv_RX0_19 : nr_LV RX0 19 0 yX0_cell cX0_cell 4 (some .int) 2 := ⟨wm_RX0_19, wi_yX0_cell, we_yX0_cell, ml_yX0_cell, TX0, 1, rfl⟩
theorem ml_yX0_swollen : nr_ML yX0_swollen cX0_swollen 1 (some .int) 1 := ⟨wc_yX0_swollen, wn_RX0, ⟨by decide, by decide⟩, by decide +kernel, by decide⟩
theorem ls_RX0_23 : nr_LS RX0 23 yX0_swollen cX0_swollen 1 (some .int) 1 := ⟨Or.inl wm_RX0_23, ws_yX0_swollen, ml_yX0_swollen⟩
theorem ml_yX0_keyring : nr_ML yX0_keyring cX0_keyring 1 (some .int) 0 := ⟨wc_yX0_keyring, wn_RX0, ⟨by decide, by decide⟩, by decide +kernel, by decide⟩
theorem lv_RX0_27 : nr_LV RX0 27 0 yX0_keyring cX0_keyring 1 (some .int) 0 := ⟨wm_RX0_27, wi_yX0_keyring, we_yX0_keyring, ml_yX0_keyring, TX0, 1, rfl⟩
theorem ml_yX0_sleepNow : nr_ML yX0_sleepNow cX0_sleepNow 2 (some .int) 1 := ⟨wc_yX0_sleepNow, wn_RX0, ⟨by decide, by decide⟩, by decide +kernel, by decide⟩
theorem lv_RX0_31 : nr_LV RX0 31 0 yX0_sleepNow cX0_sleepNow 2 (some .int) 1 := ⟨wm_RX0_31, wi_yX0_sleepNow, we_yX0_sleepNow, ml_yX0_sleepNow, TX0, 1, rfl⟩
theorem ml_yX0_giveKeys : nr_ML yX0_giveKeys cX0_giveKeys 2 none 1 := ⟨wc_yX0_giveKeys, wn_RX0, ⟨by decide, by decide⟩, by decide +kernel, by decide⟩
theorem lv_RX0_39 : nr_LV RX0 39 0 yX0_giveKeys cX0_giveKeys 2 none 1 := ⟨wm_RX0_39, wi_yX0_giveKeys, we_yX0_giveKeys, ml_yX0_giveKeys, TX0, 1, rfl⟩
theorem ml_yJ7_fill_53178 : nr_ML yJ7_fill_53178 cJ7_fill_53178 4 none 2 := ⟨wc_yJ7_fill_53178, wn_RJ7, ⟨by decide, by decide⟩, by decide +kernel, by decide⟩
theorem ls_RX0_49 : nr_LS RX0 49 yJ7_fill_53178 cJ7_fill_53178 4 none 2 := ⟨Or.inl wm_RX0_49, ws_yJ7_fill_53178, ml_yJ7_fill_53178⟩
theorem ml_yX0_upToThree : nr_ML yX0_upToThree cX0_upToThree 1 (some .int) 1 := ⟨wc_yX0_upToThree, wn_RX0, ⟨by decide, by decide⟩, by decide +kernel, by decide⟩
theorem ls_RX0_69 : nr_LS RX0 69 yX0_upToThree cX0_upToThree 1 (some .int) 1 := ⟨Or.inl wm_RX0_69, ws_yX0_upToThree, ml_yX0_upToThree⟩
theorem ml_yX4_begin : nr_ML yX4_begin cX4_begin 1 none 0 := ⟨wc_yX4_begin, wn_RX4, ⟨by decide, by decide⟩, by decide +kernel, by decide⟩
theorem lv_RX2_23 : nr_LV RX2 23 4 yX4_begin cX4_begin 1 none 0 := ⟨wm_RX2_23, wi_yX4_begin, we_yX4_begin, ml_yX4_begin, TX4, 5, rfl⟩
theorem ml_yX3_acts : nr_ML yX3_acts cX3_acts 1 (some .int) 0 := ⟨wc_yX3_acts, wn_RX3, ⟨by decide, by decide⟩, by decide +kernel, by decide⟩
theorem lv_RX2_28 : nr_LV RX2 28 3 yX3_acts cX3_acts 1 (some .int) 0 := ⟨wm_RX2_28, wi_yX3_acts, we_yX3_acts, ml_yX3_acts, TX3, 11, rfl⟩
theorem ml_yX2_doActs : nr_ML yX2_doActs cX2_doActs 7 (some .boolean) 4 := ⟨wc_yX2_doActs, wn_RX2, ⟨by decide, by decide⟩, by decide +kernel, by decide⟩
theorem lv_RX2_34 : nr_LV RX2 34 2 yX2_doActs cX2_doActs 7 (some .boolean) 4 := ⟨wm_RX2_34, wi_yX2_doActs, we_yX2_doActs, ml_yX2_doActs, TX2, 3, rfl⟩
theorem ml_yX0_sum : nr_ML yX0_sum cX0_sum 1 (some .int) 0 := ⟨wc_yX0_sum, wn_RX0, ⟨by decide, by decide⟩, by decide +kernel, by decide⟩
theorem lv_RX2_38 : nr_LV RX2 38 0 yX0_sum cX0_sum 1 (some .int) 0 := ⟨wm_RX2_38, wi_yX0_sum, we_yX0_sum, ml_yX0_sum, TX0, 1, rfl⟩
theorem ml_yX4_close : nr_ML yX4_close cX4_close 2 none 1 := ⟨wc_yX4_close, wn_RX4, ⟨by decide, by decide⟩, by decide +kernel, by decide⟩
theorem lv_RX2_43 : nr_LV RX2 43 4 yX4_close cX4_close 2 none 1 := ⟨wm_RX2_43, wi_yX4_close, we_yX4_close, ml_yX4_close, TX4, 5, rfl⟩
theorem ml_yX4_fact : nr_ML yX4_fact cX4_fact 2 (some .int) 1 := ⟨wc_yX4_fact, wn_RX4, ⟨by decide, by decide⟩, by decide +kernel, by decide⟩
theorem lv_RX2_47 : nr_LV RX2 47 4 yX4_fact cX4_fact 2 (some .int) 1 := ⟨wm_RX2_47, wi_yX4_fact, we_yX4_fact, ml_yX4_fact, TX4, 5, rfl⟩
theorem ml_yX2_doAct : nr_ML yX2_doAct cX2_doAct 4 (some .boolean) 3 := ⟨wc_yX2_doAct, wn_RX2, ⟨by decide, by decide⟩, by decide +kernel, by decide⟩
theorem lv_RX2_51 : nr_LV RX2 51 2 yX2_doAct cX2_doAct 4 (some .boolean) 3 := ⟨wm_RX2_51, wi_yX2_doAct, we_yX2_doAct, ml_yX2_doAct, TX2, 3, rfl⟩
theorem ml_yX3_next : nr_ML yX3_next cX3_next 2 (some .int) 1 := ⟨wc_yX3_next, wn_RX3, ⟨by decide, by decide⟩, by decide +kernel, by decide⟩
theorem lv_RX2_55 : nr_LV RX2 55 3 yX3_next cX3_next 2 (some .int) 1 := ⟨wm_RX2_55, wi_yX3_next, we_yX3_next, ml_yX3_next, TX3, 11, rfl⟩
theorem ml_yX4_tick : nr_ML yX4_tick cX4_tick 1 (some .boolean) 0 := ⟨wc_yX4_tick, wn_RX4, ⟨by decide, by decide⟩, by decide +kernel, by decide⟩
theorem lv_RX2_58 : nr_LV RX2 58 4 yX4_tick cX4_tick 1 (some .boolean) 0 := ⟨wm_RX2_58, wi_yX4_tick, we_yX4_tick, ml_yX4_tick, TX4, 5, rfl⟩
theorem ml_yX2_befalls : nr_ML yX2_befalls cX2_befalls 3 (some .boolean) 2 := ⟨wc_yX2_befalls, wn_RX2, ⟨by decide, by decide⟩, by decide +kernel, by decide⟩
theorem lv_RX2_62 : nr_LV RX2 62 2 yX2_befalls cX2_befalls 3 (some .boolean) 2 := ⟨wm_RX2_62, wi_yX2_befalls, we_yX2_befalls, ml_yX2_befalls, TX2, 3, rfl⟩
theorem ml_yX3_sign : nr_ML yX3_sign cX3_sign 2 (some .int) 1 := ⟨wc_yX3_sign, wn_RX3, ⟨by decide, by decide⟩, by decide +kernel, by decide⟩
theorem lv_RX2_66 : nr_LV RX2 66 3 yX3_sign cX3_sign 2 (some .int) 1 := ⟨wm_RX2_66, wi_yX3_sign, we_yX3_sign, ml_yX3_sign, TX3, 11, rfl⟩
theorem ml_yX2_goInto : nr_ML yX2_goInto cX2_goInto 6 (some .boolean) 3 := ⟨wc_yX2_goInto, wn_RX2, ⟨by decide, by decide⟩, by decide +kernel, by decide⟩
theorem lv_RX2_69 : nr_LV RX2 69 2 yX2_goInto cX2_goInto 6 (some .boolean) 3 := ⟨wm_RX2_69, wi_yX2_goInto, we_yX2_goInto, ml_yX2_goInto, TX2, 3, rfl⟩
theorem ml_yX2_doOrElse : nr_ML yX2_doOrElse cX2_doOrElse 4 (some .boolean) 3 := ⟨wc_yX2_doOrElse, wn_RX2, ⟨by decide, by decide⟩, by decide +kernel, by decide⟩
theorem lv_RX2_72 : nr_LV RX2 72 2 yX2_doOrElse cX2_doOrElse 4 (some .boolean) 3 := ⟨wm_RX2_72, wi_yX2_doOrElse, we_yX2_doOrElse, ml_yX2_doOrElse, TX2, 3, rfl⟩
theorem ml_yX2_doAndHear : nr_ML yX2_doAndHear cX2_doAndHear 5 (some .boolean) 3 := ⟨wc_yX2_doAndHear, wn_RX2, ⟨by decide, by decide⟩, by decide +kernel, by decide⟩
theorem lv_RX2_75 : nr_LV RX2 75 2 yX2_doAndHear cX2_doAndHear 5 (some .boolean) 3 := ⟨wm_RX2_75, wi_yX2_doAndHear, we_yX2_doAndHear, ml_yX2_doAndHear, TX2, 3, rfl⟩
theorem ml_yX2_doAndReport : nr_ML yX2_doAndReport cX2_doAndReport 4 (some .boolean) 3 := ⟨wc_yX2_doAndReport, wn_RX2, ⟨by decide, by decide⟩, by decide +kernel, by decide⟩
theorem lv_RX2_78 : nr_LV RX2 78 2 yX2_doAndReport cX2_doAndReport 4 (some .boolean) 3 := ⟨wm_RX2_78, wi_yX2_doAndReport, we_yX2_doAndReport, ml_yX2_doAndReport, TX2, 3, rfl⟩
theorem ml_yX2_doSoOften : nr_ML yX2_doSoOften cX2_doSoOften 6 (some .boolean) 3 := ⟨wc_yX2_doSoOften, wn_RX2, ⟨by decide, by decide⟩, by decide +kernel, by decide⟩
theorem lv_RX2_81 : nr_LV RX2 81 2 yX2_doSoOften cX2_doSoOften 6 (some .boolean) 3 := ⟨wm_RX2_81, wi_yX2_doSoOften, we_yX2_doSoOften, ml_yX2_doSoOften, TX2, 3, rfl⟩
theorem ml_yX3_figure : nr_ML yX3_figure cX3_figure 2 (some .int) 1 := ⟨wc_yX3_figure, wn_RX3, ⟨by decide, by decide⟩, by decide +kernel, by decide⟩
theorem lv_RX2_84 : nr_LV RX2 84 3 yX3_figure cX3_figure 2 (some .int) 1 := ⟨wm_RX2_84, wi_yX3_figure, we_yX3_figure, ml_yX3_figure, TX3, 11, rfl⟩
theorem ml_yX4_befall : nr_ML yX4_befall cX4_befall 4 none 3 := ⟨wc_yX4_befall, wn_RX4, ⟨by decide, by decide⟩, by decide +kernel, by decide⟩
theorem lv_RX2_87 : nr_LV RX2 87 4 yX4_befall cX4_befall 4 none 3 := ⟨wm_RX2_87, wi_yX4_befall, we_yX4_befall, ml_yX4_befall, TX4, 5, rfl⟩
theorem ml_yX4_doorsOpen : nr_ML yX4_doorsOpen cX4_doorsOpen 1 (some .int) 0 := ⟨wc_yX4_doorsOpen, wn_RX4, ⟨by decide, by decide⟩, by decide +kernel, by decide⟩
theorem lv_RX2_91 : nr_LV RX2 91 4 yX4_doorsOpen cX4_doorsOpen 1 (some .int) 0 := ⟨wm_RX2_91, wi_yX4_doorsOpen, we_yX4_doorsOpen, ml_yX4_doorsOpen, TX4, 5, rfl⟩
theorem ml_yX0_addToSum : nr_ML yX0_addToSum cX0_addToSum 2 none 1 := ⟨wc_yX0_addToSum, wn_RX0, ⟨by decide, by decide⟩, by decide +kernel, by decide⟩
theorem lv_RX2_94 : nr_LV RX2 94 0 yX0_addToSum cX0_addToSum 2 none 1 := ⟨wm_RX2_94, wi_yX0_addToSum, we_yX0_addToSum, ml_yX0_addToSum, TX0, 1, rfl⟩
theorem ml_yX2_doInRoom : nr_ML yX2_doInRoom cX2_doInRoom 3 (some .boolean) 2 := ⟨wc_yX2_doInRoom, wn_RX2, ⟨by decide, by decide⟩, by decide +kernel, by decide⟩
theorem lv_RX2_97 : nr_LV RX2 97 2 yX2_doInRoom cX2_doInRoom 3 (some .boolean) 2 := ⟨wm_RX2_97, wi_yX2_doInRoom, we_yX2_doInRoom, ml_yX2_doInRoom, TX2, 3, rfl⟩
theorem ml_yX3_middle : nr_ML yX3_middle cX3_middle 2 (some .int) 1 := ⟨wc_yX3_middle, wn_RX3, ⟨by decide, by decide⟩, by decide +kernel, by decide⟩
theorem lv_RX2_100 : nr_LV RX2 100 3 yX3_middle cX3_middle 2 (some .int) 1 := ⟨wm_RX2_100, wi_yX3_middle, we_yX3_middle, ml_yX3_middle, TX3, 11, rfl⟩
theorem ml_yX4_calm : nr_ML yX4_calm cX4_calm 1 none 0 := ⟨wc_yX4_calm, wn_RX4, ⟨by decide, by decide⟩, by decide +kernel, by decide⟩
theorem lv_RX2_103 : nr_LV RX2 103 4 yX4_calm cX4_calm 1 none 0 := ⟨wm_RX2_103, wi_yX4_calm, we_yX4_calm, ml_yX4_calm, TX4, 5, rfl⟩
theorem ml_yX0_admits : nr_ML yX0_admits cX0_admits 3 (some .boolean) 1 := ⟨wc_yX0_admits, wn_RX0, ⟨by decide, by decide⟩, by decide +kernel, by decide⟩
theorem lv_RX2_106 : nr_LV RX2 106 0 yX0_admits cX0_admits 3 (some .boolean) 1 := ⟨wm_RX2_106, wi_yX0_admits, we_yX0_admits, ml_yX0_admits, TX0, 1, rfl⟩
theorem ml_yX0_openDoor : nr_ML yX0_openDoor cX0_openDoor 2 none 1 := ⟨wc_yX0_openDoor, wn_RX0, ⟨by decide, by decide⟩, by decide +kernel, by decide⟩
theorem lv_RX2_110 : nr_LV RX2 110 0 yX0_openDoor cX0_openDoor 2 none 1 := ⟨wm_RX2_110, wi_yX0_openDoor, we_yX0_openDoor, ml_yX0_openDoor, TX0, 1, rfl⟩
theorem ml_yX4_doorOpened : nr_ML yX4_doorOpened cX4_doorOpened 2 none 1 := ⟨wc_yX4_doorOpened, wn_RX4, ⟨by decide, by decide⟩, by decide +kernel, by decide⟩
theorem lv_RX2_113 : nr_LV RX2 113 4 yX4_doorOpened cX4_doorOpened 2 none 1 := ⟨wm_RX2_113, wi_yX4_doorOpened, we_yX4_doorOpened, ml_yX4_doorOpened, TX4, 5, rfl⟩
theorem ml_yX0_loudness : nr_ML yX0_loudness cX0_loudness 3 (some .int) 1 := ⟨wc_yX0_loudness, wn_RX0, ⟨by decide, by decide⟩, by decide +kernel, by decide⟩
theorem lv_RX2_116 : nr_LV RX2 116 0 yX0_loudness cX0_loudness 3 (some .int) 1 := ⟨wm_RX2_116, wi_yX0_loudness, we_yX0_loudness, ml_yX0_loudness, TX0, 1, rfl⟩
theorem ml_yX0_wakes : nr_ML yX0_wakes cX0_wakes 4 (some .boolean) 2 := ⟨wc_yX0_wakes, wn_RX0, ⟨by decide, by decide⟩, by decide +kernel, by decide⟩
theorem lv_RX2_119 : nr_LV RX2 119 0 yX0_wakes cX0_wakes 4 (some .boolean) 2 := ⟨wm_RX2_119, wi_yX0_wakes, we_yX0_wakes, ml_yX0_wakes, TX0, 1, rfl⟩
theorem ml_yX2_doFirstPart : nr_ML yX2_doFirstPart cX2_doFirstPart 4 (some .boolean) 3 := ⟨wc_yX2_doFirstPart, wn_RX2, ⟨by decide, by decide⟩, by decide +kernel, by decide⟩
theorem lv_RX2_122 : nr_LV RX2 122 2 yX2_doFirstPart cX2_doFirstPart 4 (some .boolean) 3 := ⟨wm_RX2_122, wi_yX2_doFirstPart, we_yX2_doFirstPart, ml_yX2_doFirstPart, TX2, 3, rfl⟩
theorem ml_yX4_doorShut : nr_ML yX4_doorShut cX4_doorShut 2 none 1 := ⟨wc_yX4_doorShut, wn_RX4, ⟨by decide, by decide⟩, by decide +kernel, by decide⟩
theorem lv_RX2_125 : nr_LV RX2 125 4 yX4_doorShut cX4_doorShut 2 none 1 := ⟨wm_RX2_125, wi_yX4_doorShut, we_yX4_doorShut, ml_yX4_doorShut, TX4, 5, rfl⟩
theorem ml_yX5_within : nr_ML yX5_within cX5_within 3 (some .boolean) 3 := ⟨wc_yX5_within, wn_RX5, ⟨by decide, by decide⟩, by decide +kernel, by decide⟩
theorem ls_RX2_128 : nr_LS RX2 128 yX5_within cX5_within 3 (some .boolean) 3 := ⟨Or.inr ⟨_, wm_RX2_128⟩, ws_yX5_within, ml_yX5_within⟩
theorem ml_yX2_doSecondPart : nr_ML yX2_doSecondPart cX2_doSecondPart 4 (some .boolean) 3 := ⟨wc_yX2_doSecondPart, wn_RX2, ⟨by decide, by decide⟩, by decide +kernel, by decide⟩
theorem lv_RX2_131 : nr_LV RX2 131 2 yX2_doSecondPart cX2_doSecondPart 4 (some .boolean) 3 := ⟨wm_RX2_131, wi_yX2_doSecondPart, we_yX2_doSecondPart, ml_yX2_doSecondPart, TX2, 3, rfl⟩
theorem ml_yX4_report : nr_ML yX4_report cX4_report 1 none 0 := ⟨wc_yX4_report, wn_RX4, ⟨by decide, by decide⟩, by decide +kernel, by decide⟩
theorem lv_RX2_134 : nr_LV RX2 134 4 yX4_report cX4_report 1 none 0 := ⟨wm_RX2_134, wi_yX4_report, we_yX4_report, ml_yX4_report, TX4, 5, rfl⟩
theorem ml_yX0_turnLamp : nr_ML yX0_turnLamp cX0_turnLamp 2 none 1 := ⟨wc_yX0_turnLamp, wn_RX0, ⟨by decide, by decide⟩, by decide +kernel, by decide⟩
theorem lv_RX2_137 : nr_LV RX2 137 0 yX0_turnLamp cX0_turnLamp 2 none 1 := ⟨wm_RX2_137, wi_yX0_turnLamp, we_yX0_turnLamp, ml_yX0_turnLamp, TX0, 1, rfl⟩
theorem ml_yX0_takeKey : nr_ML yX0_takeKey cX0_takeKey 3 none 1 := ⟨wc_yX0_takeKey, wn_RX0, ⟨by decide, by decide⟩, by decide +kernel, by decide⟩
theorem lv_RX2_140 : nr_LV RX2 140 0 yX0_takeKey cX0_takeKey 3 none 1 := ⟨wm_RX2_140, wi_yX0_takeKey, we_yX0_takeKey, ml_yX0_takeKey, TX0, 1, rfl⟩
theorem lv_RX2_143 : nr_LV RX2 143 0 yX0_cell cX0_cell 4 (some .int) 2 := ⟨wm_RX2_143, wi_yX0_cell, we_yX0_cell, ml_yX0_cell, TX0, 1, rfl⟩
theorem lv_RX2_147 : nr_LV RX2 147 0 yX0_sleepNow cX0_sleepNow 2 (some .int) 1 := ⟨wm_RX2_147, wi_yX0_sleepNow, we_yX0_sleepNow, ml_yX0_sleepNow, TX0, 1, rfl⟩
theorem ml_yX5_at : nr_ML yX5_at cX5_at 2 (some .int) 2 := ⟨wc_yX5_at, wn_RX5, ⟨by decide, by decide⟩, by decide +kernel, by decide⟩
theorem ls_RX3_40 : nr_LS RX3 40 yX5_at cX5_at 2 (some .int) 2 := ⟨Or.inr ⟨_, wm_RX3_40⟩, ws_yX5_at, ml_yX5_at⟩
theorem ml_yX3_readActs : nr_ML yX3_readActs cX3_readActs 3 none 1 := ⟨wc_yX3_readActs, wn_RX3, ⟨by decide, by decide⟩, by decide +kernel, by decide⟩
theorem lv_RX3_50 : nr_LV RX3 50 3 yX3_readActs cX3_readActs 3 none 1 := ⟨wm_RX3_50, wi_yX3_readActs, we_yX3_readActs, ml_yX3_readActs, TX3, 11, rfl⟩
theorem ml_yX3_nextSign : nr_ML yX3_nextSign cX3_nextSign 1 (some .int) 0 := ⟨wc_yX3_nextSign, wn_RX3, ⟨by decide, by decide⟩, by decide +kernel, by decide⟩
theorem lv_RX3_54 : nr_LV RX3 54 3 yX3_nextSign cX3_nextSign 1 (some .int) 0 := ⟨wm_RX3_54, wi_yX3_nextSign, we_yX3_nextSign, ml_yX3_nextSign, TX3, 11, rfl⟩
theorem ml_yX3_beginsAct : nr_ML yX3_beginsAct cX3_beginsAct 1 (some .boolean) 1 := ⟨wc_yX3_beginsAct, wn_RX3, ⟨by decide, by decide⟩, by decide +kernel, by decide⟩
theorem ls_RX3_58 : nr_LS RX3 58 yX3_beginsAct cX3_beginsAct 1 (some .boolean) 1 := ⟨Or.inl wm_RX3_58, ws_yX3_beginsAct, ml_yX3_beginsAct⟩
theorem ml_yX3_readAct : nr_ML yX3_readAct cX3_readAct 4 none 1 := ⟨wc_yX3_readAct, wn_RX3, ⟨by decide, by decide⟩, by decide +kernel, by decide⟩
theorem lv_RX3_62 : nr_LV RX3 62 3 yX3_readAct cX3_readAct 4 none 1 := ⟨wm_RX3_62, wi_yX3_readAct, we_yX3_readAct, ml_yX3_readAct, TX3, 11, rfl⟩
theorem ml_yX3_holdsActs : nr_ML yX3_holdsActs cX3_holdsActs 1 (some .boolean) 1 := ⟨wc_yX3_holdsActs, wn_RX3, ⟨by decide, by decide⟩, by decide +kernel, by decide⟩
theorem ls_RX3_65 : nr_LS RX3 65 yX3_holdsActs cX3_holdsActs 1 (some .boolean) 1 := ⟨Or.inl wm_RX3_65, ws_yX3_holdsActs, ml_yX3_holdsActs⟩
theorem ml_yX3_isRoomSign : nr_ML yX3_isRoomSign cX3_isRoomSign 1 (some .boolean) 1 := ⟨wc_yX3_isRoomSign, wn_RX3, ⟨by decide, by decide⟩, by decide +kernel, by decide⟩
theorem ls_RX3_74 : nr_LS RX3 74 yX3_isRoomSign cX3_isRoomSign 1 (some .boolean) 1 := ⟨Or.inl wm_RX3_74, ws_yX3_isRoomSign, ml_yX3_isRoomSign⟩
theorem ml_yX5_put : nr_ML yX5_put cX5_put 3 none 3 := ⟨wc_yX5_put, wn_RX5, ⟨by decide, by decide⟩, by decide +kernel, by decide⟩
theorem ls_RX3_77 : nr_LS RX3 77 yX5_put cX5_put 3 none 3 := ⟨Or.inr ⟨_, wm_RX3_77⟩, ws_yX5_put, ml_yX5_put⟩
theorem ml_yX3_readRest : nr_ML yX3_readRest cX3_readRest 4 none 3 := ⟨wc_yX3_readRest, wn_RX3, ⟨by decide, by decide⟩, by decide +kernel, by decide⟩
theorem lv_RX3_81 : nr_LV RX3 81 3 yX3_readRest cX3_readRest 4 none 3 := ⟨wm_RX3_81, wi_yX3_readRest, we_yX3_readRest, ml_yX3_readRest, TX3, 11, rfl⟩
theorem ml_yX3_readFigure : nr_ML yX3_readFigure cX3_readFigure 2 (some .int) 0 := ⟨wc_yX3_readFigure, wn_RX3, ⟨by decide, by decide⟩, by decide +kernel, by decide⟩
theorem lv_RX3_85 : nr_LV RX3 85 3 yX3_readFigure cX3_readFigure 2 (some .int) 0 := ⟨wm_RX3_85, wi_yX3_readFigure, we_yX3_readFigure, ml_yX3_readFigure, TX3, 11, rfl⟩
theorem ml_yX3_readParts : nr_ML yX3_readParts cX3_readParts 5 none 4 := ⟨wc_yX3_readParts, wn_RX3, ⟨by decide, by decide⟩, by decide +kernel, by decide⟩
theorem lv_RX3_88 : nr_LV RX3 88 3 yX3_readParts cX3_readParts 5 none 4 := ⟨wm_RX3_88, wi_yX3_readParts, we_yX3_readParts, ml_yX3_readParts, TX3, 11, rfl⟩
theorem ml_yX3_expect : nr_ML yX3_expect cX3_expect 2 none 1 := ⟨wc_yX3_expect, wn_RX3, ⟨by decide, by decide⟩, by decide +kernel, by decide⟩
theorem lv_RX3_92 : nr_LV RX3 92 3 yX3_expect cX3_expect 2 none 1 := ⟨wm_RX3_92, wi_yX3_expect, we_yX3_expect, ml_yX3_expect, TX3, 11, rfl⟩
theorem ls_RX3_95 : nr_LS RX3 95 yX5_within cX5_within 3 (some .boolean) 3 := ⟨Or.inr ⟨_, wm_RX3_95⟩, ws_yX5_within, ml_yX5_within⟩
theorem lv_RX4_18 : nr_LV RX4 18 4 yX4_begin cX4_begin 1 none 0 := ⟨wm_RX4_18, wi_yX4_begin, we_yX4_begin, ml_yX4_begin, TX4, 5, rfl⟩
theorem ls_RX4_21 : nr_LS RX4 21 yJ7_fill_53178 cJ7_fill_53178 4 none 2 := ⟨Or.inl wm_RX4_21, ws_yJ7_fill_53178, ml_yJ7_fill_53178⟩
theorem lv_RX4_34 : nr_LV RX4 34 4 yX4_calm cX4_calm 1 none 0 := ⟨wm_RX4_34, wi_yX4_calm, we_yX4_calm, ml_yX4_calm, TX4, 5, rfl⟩
theorem lv_RX4_40 : nr_LV RX4 40 4 yX4_befall cX4_befall 4 none 3 := ⟨wm_RX4_40, wi_yX4_befall, we_yX4_befall, ml_yX4_befall, TX4, 5, rfl⟩
theorem ls_RX4_44 : nr_LS RX4 44 yX5_at cX5_at 2 (some .int) 2 := ⟨Or.inr ⟨_, wm_RX4_44⟩, ws_yX5_at, ml_yX5_at⟩
theorem ml_yX4_write : nr_ML yX4_write cX4_write 2 none 1 := ⟨wc_yX4_write, wn_RX4, ⟨by decide, by decide⟩, by decide +kernel, by decide⟩
theorem lv_RX4_54 : nr_LV RX4 54 4 yX4_write cX4_write 2 none 1 := ⟨wm_RX4_54, wi_yX4_write, we_yX4_write, ml_yX4_write, TX4, 5, rfl⟩
theorem ml_yX5_isRoom : nr_ML yX5_isRoom cX5_isRoom 1 (some .boolean) 1 := ⟨wc_yX5_isRoom, wn_RX5, ⟨by decide, by decide⟩, by decide +kernel, by decide⟩
theorem ls_RX5_52 : nr_LS RX5 52 yX5_isRoom cX5_isRoom 1 (some .boolean) 1 := ⟨Or.inl wm_RX5_52, ws_yX5_isRoom, ml_yX5_isRoom⟩
theorem ls_RX5_56 : nr_LS RX5 56 yX5_within cX5_within 3 (some .boolean) 3 := ⟨Or.inl wm_RX5_56, ws_yX5_within, ml_yX5_within⟩
theorem ls_RX5_64 : nr_LS RX5 64 yX5_at cX5_at 2 (some .int) 2 := ⟨Or.inl wm_RX5_64, ws_yX5_at, ml_yX5_at⟩
theorem ml_yX5_refuse : nr_ML yX5_refuse cX5_refuse 2 (some .int) 1 := ⟨wc_yX5_refuse, wn_RX5, ⟨by decide, by decide⟩, by decide +kernel, by decide⟩
theorem lv_RX5_68 : nr_LV RX5 68 5 yX5_refuse cX5_refuse 2 (some .int) 1 := ⟨wm_RX5_68, wi_yX5_refuse, we_yX5_refuse, ml_yX5_refuse, TX5, 10, rfl⟩
theorem lv_RX5_72 : nr_LV RX5 72 0 yX0_cell cX0_cell 4 (some .int) 2 := ⟨wm_RX5_72, wi_yX0_cell, we_yX0_cell, ml_yX0_cell, TX0, 1, rfl⟩
theorem ml_yX1_keep : nr_ML yX1_keep cX1_keep 2 none 1 := ⟨wc_yX1_keep, wn_RX1, ⟨by decide, by decide⟩, by decide +kernel, by decide⟩
theorem lv_RX5_76 : nr_LV RX5 76 1 yX1_keep cX1_keep 2 none 1 := ⟨wm_RX5_76, wi_yX1_keep, we_yX1_keep, ml_yX1_keep, TX1, 2, rfl⟩
theorem ml_yX0_change : nr_ML yX0_change cX0_change 4 none 3 := ⟨wc_yX0_change, wn_RX0, ⟨by decide, by decide⟩, by decide +kernel, by decide⟩
theorem lv_RX5_80 : nr_LV RX5 80 0 yX0_change cX0_change 4 none 3 := ⟨wm_RX5_80, wi_yX0_change, we_yX0_change, ml_yX0_change, TX0, 1, rfl⟩
theorem lv_RX5_84 : nr_LV RX5 84 0 yX0_loudness cX0_loudness 3 (some .int) 1 := ⟨wm_RX5_84, wi_yX0_loudness, we_yX0_loudness, ml_yX0_loudness, TX0, 1, rfl⟩
theorem lv_RX5_87 : nr_LV RX5 87 0 yX0_keyring cX0_keyring 1 (some .int) 0 := ⟨wm_RX5_87, wi_yX0_keyring, we_yX0_keyring, ml_yX0_keyring, TX0, 1, rfl⟩
theorem lv_RX5_91 : nr_LV RX5 91 0 yX0_giveKeys cX0_giveKeys 2 none 1 := ⟨wm_RX5_91, wi_yX0_giveKeys, we_yX0_giveKeys, ml_yX0_giveKeys, TX0, 1, rfl⟩
theorem ml_yX0_roomsWith : nr_ML yX0_roomsWith cX0_roomsWith 4 (some .int) 1 := ⟨wc_yX0_roomsWith, wn_RX0, ⟨by decide, by decide⟩, by decide +kernel, by decide⟩
theorem lv_RX5_95 : nr_LV RX5 95 0 yX0_roomsWith cX0_roomsWith 4 (some .int) 1 := ⟨wm_RX5_95, wi_yX0_roomsWith, we_yX0_roomsWith, ml_yX0_roomsWith, TX0, 1, rfl⟩
theorem ml_yX0_settle : nr_ML yX0_settle cX0_settle 2 none 0 := ⟨wc_yX0_settle, wn_RX0, ⟨by decide, by decide⟩, by decide +kernel, by decide⟩
theorem lv_RX5_98 : nr_LV RX5 98 0 yX0_settle cX0_settle 2 none 0 := ⟨wm_RX5_98, wi_yX0_settle, we_yX0_settle, ml_yX0_settle, TX0, 1, rfl⟩
theorem ml_yX3_length : nr_ML yX3_length cX3_length 1 (some .int) 0 := ⟨wc_yX3_length, wn_RX3, ⟨by decide, by decide⟩, by decide +kernel, by decide⟩
theorem lv_RX5_101 : nr_LV RX5 101 3 yX3_length cX3_length 1 (some .int) 0 := ⟨wm_RX5_101, wi_yX3_length, we_yX3_length, ml_yX3_length, TX3, 11, rfl⟩
theorem ml_yX3_append : nr_ML yX3_append cX3_append 2 none 1 := ⟨wc_yX3_append, wn_RX3, ⟨by decide, by decide⟩, by decide +kernel, by decide⟩
theorem lv_RX5_104 : nr_LV RX5 104 3 yX3_append cX3_append 2 none 1 := ⟨wm_RX5_104, wi_yX3_append, we_yX3_append, ml_yX3_append, TX3, 11, rfl⟩
theorem ml_yX3_empty : nr_ML yX3_empty cX3_empty 1 none 0 := ⟨wc_yX3_empty, wn_RX3, ⟨by decide, by decide⟩, by decide +kernel, by decide⟩
theorem lv_RX5_107 : nr_LV RX5 107 3 yX3_empty cX3_empty 1 none 0 := ⟨wm_RX5_107, wi_yX3_empty, we_yX3_empty, ml_yX3_empty, TX3, 11, rfl⟩
theorem ml_yX3_read : nr_ML yX3_read cX3_read 1 (some .int) 0 := ⟨wc_yX3_read, wn_RX3, ⟨by decide, by decide⟩, by decide +kernel, by decide⟩
theorem lv_RX5_110 : nr_LV RX5 110 3 yX3_read cX3_read 1 (some .int) 0 := ⟨wm_RX5_110, wi_yX3_read, we_yX3_read, ml_yX3_read, TX3, 11, rfl⟩
theorem ml_yX2_walk : nr_ML yX2_walk cX2_walk 3 (some .int) 2 := ⟨wc_yX2_walk, wn_RX2, ⟨by decide, by decide⟩, by decide +kernel, by decide⟩
theorem lv_RX5_113 : nr_LV RX5 113 2 yX2_walk cX2_walk 3 (some .int) 2 := ⟨wm_RX5_113, wi_yX2_walk, we_yX2_walk, ml_yX2_walk, TX2, 3, rfl⟩
theorem ml_yX0_become : nr_ML yX0_become cX0_become 2 none 1 := ⟨wc_yX0_become, wn_RX0, ⟨by decide, by decide⟩, by decide +kernel, by decide⟩
theorem lv_RX5_117 : nr_LV RX5 117 0 yX0_become cX0_become 2 none 1 := ⟨wm_RX5_117, wi_yX0_become, we_yX0_become, ml_yX0_become, TX0, 1, rfl⟩
theorem lv_RX5_120 : nr_LV RX5 120 4 yX4_fact cX4_fact 2 (some .int) 1 := ⟨wm_RX5_120, wi_yX4_fact, we_yX4_fact, ml_yX4_fact, TX4, 5, rfl⟩
theorem ml_yX4_innermost : nr_ML yX4_innermost cX4_innermost 1 (some .int) 0 := ⟨wc_yX4_innermost, wn_RX4, ⟨by decide, by decide⟩, by decide +kernel, by decide⟩
theorem lv_RX5_123 : nr_LV RX5 123 4 yX4_innermost cX4_innermost 1 (some .int) 0 := ⟨wm_RX5_123, wi_yX4_innermost, we_yX4_innermost, ml_yX4_innermost, TX4, 5, rfl⟩
theorem ml_yX4_written : nr_ML yX4_written cX4_written 1 (some .int) 0 := ⟨wc_yX4_written, wn_RX4, ⟨by decide, by decide⟩, by decide +kernel, by decide⟩
theorem lv_RX5_126 : nr_LV RX5 126 4 yX4_written cX4_written 1 (some .int) 0 := ⟨wm_RX5_126, wi_yX4_written, we_yX4_written, ml_yX4_written, TX4, 5, rfl⟩
theorem ml_yX4_entry : nr_ML yX4_entry cX4_entry 2 (some .int) 1 := ⟨wc_yX4_entry, wn_RX4, ⟨by decide, by decide⟩, by decide +kernel, by decide⟩
theorem lv_RX5_129 : nr_LV RX5 129 4 yX4_entry cX4_entry 2 (some .int) 1 := ⟨wm_RX5_129, wi_yX4_entry, we_yX4_entry, ml_yX4_entry, TX4, 5, rfl⟩
theorem lv_RX5_132 : nr_LV RX5 132 4 yX4_doorsOpen cX4_doorsOpen 1 (some .int) 0 := ⟨wm_RX5_132, wi_yX4_doorsOpen, we_yX4_doorsOpen, ml_yX4_doorsOpen, TX4, 5, rfl⟩
theorem ml_yX5_endWithKeys : nr_ML yX5_endWithKeys cX5_endWithKeys 2 (some .int) 1 := ⟨wc_yX5_endWithKeys, wn_RX5, ⟨by decide, by decide⟩, by decide +kernel, by decide⟩
theorem lv_RX5_138 : nr_LV RX5 138 5 yX5_endWithKeys cX5_endWithKeys 2 (some .int) 1 := ⟨wm_RX5_138, wi_yX5_endWithKeys, we_yX5_endWithKeys, ml_yX5_endWithKeys, TX5, 10, rfl⟩
theorem ml_yX5_endWith : nr_ML yX5_endWith cX5_endWith 4 (some .int) 3 := ⟨wc_yX5_endWith, wn_RX5, ⟨by decide, by decide⟩, by decide +kernel, by decide⟩
theorem lv_RX5_141 : nr_LV RX5 141 5 yX5_endWith cX5_endWith 4 (some .int) 3 := ⟨wm_RX5_141, wi_yX5_endWith, we_yX5_endWith, ml_yX5_endWith, TX5, 10, rfl⟩
theorem lv_RX5_148 : nr_LV RX5 148 3 yX3_acts cX3_acts 1 (some .int) 0 := ⟨wm_RX5_148, wi_yX3_acts, we_yX3_acts, ml_yX3_acts, TX3, 11, rfl⟩
theorem ml_yX3_deepest : nr_ML yX3_deepest cX3_deepest 1 (some .int) 0 := ⟨wc_yX3_deepest, wn_RX3, ⟨by decide, by decide⟩, by decide +kernel, by decide⟩
theorem lv_RX5_151 : nr_LV RX5 151 3 yX3_deepest cX3_deepest 1 (some .int) 0 := ⟨wm_RX5_151, wi_yX3_deepest, we_yX3_deepest, ml_yX3_deepest, TX3, 11, rfl⟩
theorem ml_yX3_roomBits : nr_ML yX3_roomBits cX3_roomBits 1 (some .int) 0 := ⟨wc_yX3_roomBits, wn_RX3, ⟨by decide, by decide⟩, by decide +kernel, by decide⟩
theorem lv_RX5_154 : nr_LV RX5 154 3 yX3_roomBits cX3_roomBits 1 (some .int) 0 := ⟨wm_RX5_154, wi_yX3_roomBits, we_yX3_roomBits, ml_yX3_roomBits, TX3, 11, rfl⟩
theorem ml_yX0_drawFrom : nr_ML yX0_drawFrom cX0_drawFrom 5 none 1 := ⟨wc_yX0_drawFrom, wn_RX0, ⟨by decide, by decide⟩, by decide +kernel, by decide⟩
theorem lv_RX5_158 : nr_LV RX5 158 0 yX0_drawFrom cX0_drawFrom 5 none 1 := ⟨wm_RX5_158, wi_yX0_drawFrom, we_yX0_drawFrom, ml_yX0_drawFrom, TX0, 1, rfl⟩
theorem ml_yX1_held : nr_ML yX1_held cX1_held 1 (some .int) 0 := ⟨wc_yX1_held, wn_RX1, ⟨by decide, by decide⟩, by decide +kernel, by decide⟩
theorem lv_RX5_161 : nr_LV RX5 161 1 yX1_held cX1_held 1 (some .int) 0 := ⟨wm_RX5_161, wi_yX1_held, we_yX1_held, ml_yX1_held, TX1, 2, rfl⟩
theorem ml_yX1_giveBack : nr_ML yX1_giveBack cX1_giveBack 2 none 1 := ⟨wc_yX1_giveBack, wn_RX1, ⟨by decide, by decide⟩, by decide +kernel, by decide⟩
theorem lv_RX5_164 : nr_LV RX5 164 1 yX1_giveBack cX1_giveBack 2 none 1 := ⟨wm_RX5_164, wi_yX1_giveBack, we_yX1_giveBack, ml_yX1_giveBack, TX1, 2, rfl⟩
theorem lv_RX5_177 : nr_LV RX5 177 0 yX0_sum cX0_sum 1 (some .int) 0 := ⟨wm_RX5_177, wi_yX0_sum, we_yX0_sum, ml_yX0_sum, TX0, 1, rfl⟩
theorem lv_RX5_184 : nr_LV RX5 184 5 yX5_count cX5_count 2 (some .int) 1 := ⟨wm_RX5_184, wi_yX5_count, we_yX5_count, ml_yX5_count, TX5, 10, rfl⟩
theorem ml_yX6_in : nr_ML yX6_in cX6_in 6 (some .boolean) 3 := ⟨wc_yX6_in, wn_RX6, ⟨by decide, by decide⟩, by decide +kernel, by decide⟩
theorem ls_RX6_62 : nr_LS RX6 62 yX6_in cX6_in 6 (some .boolean) 3 := ⟨Or.inl wm_RX6_62, ws_yX6_in, ml_yX6_in⟩
theorem ml_yX6_at : nr_ML yX6_at cX6_at 3 (some .int) 2 := ⟨wc_yX6_at, wn_RX6, ⟨by decide, by decide⟩, by decide +kernel, by decide⟩
theorem lv_RX6_69 : nr_LV RX6 69 6 yX6_at cX6_at 3 (some .int) 2 := ⟨wm_RX6_69, wi_yX6_at, we_yX6_at, ml_yX6_at, TX6, 36, rfl⟩
theorem ml_yX6_loudAs : nr_ML yX6_loudAs cX6_loudAs 4 (some .int) 2 := ⟨wc_yX6_loudAs, wn_RX6, ⟨by decide, by decide⟩, by decide +kernel, by decide⟩
theorem ls_RX6_73 : nr_LS RX6 73 yX6_loudAs cX6_loudAs 4 (some .int) 2 := ⟨Or.inl wm_RX6_73, ws_yX6_loudAs, ml_yX6_loudAs⟩
theorem ml_yX6_isRoom : nr_ML yX6_isRoom cX6_isRoom 1 (some .boolean) 1 := ⟨wc_yX6_isRoom, wn_RX6, ⟨by decide, by decide⟩, by decide +kernel, by decide⟩
theorem ls_RX6_76 : nr_LS RX6 76 yX6_isRoom cX6_isRoom 1 (some .boolean) 1 := ⟨Or.inl wm_RX6_76, ws_yX6_isRoom, ml_yX6_isRoom⟩
theorem ml_yX6_bad : nr_ML yX6_bad cX6_bad 2 (some .int) 1 := ⟨wc_yX6_bad, wn_RX6, ⟨by decide, by decide⟩, by decide +kernel, by decide⟩
theorem lv_RX6_82 : nr_LV RX6 82 6 yX6_bad cX6_bad 2 (some .int) 1 := ⟨wm_RX6_82, wi_yX6_bad, we_yX6_bad, ml_yX6_bad, TX6, 36, rfl⟩
theorem ml_yX6_night : nr_ML yX6_night cX6_night 2 none 0 := ⟨wc_yX6_night, wn_RX6, ⟨by decide, by decide⟩, by decide +kernel, by decide⟩
theorem lv_RX6_86 : nr_LV RX6 86 6 yX6_night cX6_night 2 none 0 := ⟨wm_RX6_86, wi_yX6_night, we_yX6_night, ml_yX6_night, TX6, 36, rfl⟩
theorem ml_yX6_put : nr_ML yX6_put cX6_put 4 none 3 := ⟨wc_yX6_put, wn_RX6, ⟨by decide, by decide⟩, by decide +kernel, by decide⟩
theorem lv_RX6_89 : nr_LV RX6 89 6 yX6_put cX6_put 4 none 3 := ⟨wm_RX6_89, wi_yX6_put, we_yX6_put, ml_yX6_put, TX6, 36, rfl⟩
theorem ml_yX6_loud : nr_ML yX6_loud cX6_loud 2 (some .int) 1 := ⟨wc_yX6_loud, wn_RX6, ⟨by decide, by decide⟩, by decide +kernel, by decide⟩
theorem lv_RX6_93 : nr_LV RX6 93 6 yX6_loud cX6_loud 2 (some .int) 1 := ⟨wm_RX6_93, wi_yX6_loud, we_yX6_loud, ml_yX6_loud, TX6, 36, rfl⟩
theorem ml_yX6_toldOf : nr_ML yX6_toldOf cX6_toldOf 3 (some .int) 2 := ⟨wc_yX6_toldOf, wn_RX6, ⟨by decide, by decide⟩, by decide +kernel, by decide⟩
theorem lv_RX6_96 : nr_LV RX6 96 6 yX6_toldOf cX6_toldOf 3 (some .int) 2 := ⟨wm_RX6_96, wi_yX6_toldOf, we_yX6_toldOf, ml_yX6_toldOf, TX6, 36, rfl⟩
theorem ml_yX6_awake : nr_ML yX6_awake cX6_awake 3 (some .int) 0 := ⟨wc_yX6_awake, wn_RX6, ⟨by decide, by decide⟩, by decide +kernel, by decide⟩
theorem lv_RX6_101 : nr_LV RX6 101 6 yX6_awake cX6_awake 3 (some .int) 0 := ⟨wm_RX6_101, wi_yX6_awake, we_yX6_awake, ml_yX6_awake, TX6, 36, rfl⟩
theorem ml_yX6_full : nr_ML yX6_full cX6_full 1 (some .int) 0 := ⟨wc_yX6_full, wn_RX6, ⟨by decide, by decide⟩, by decide +kernel, by decide⟩
theorem lv_RX6_110 : nr_LV RX6 110 6 yX6_full cX6_full 1 (some .int) 0 := ⟨wm_RX6_110, wi_yX6_full, we_yX6_full, ml_yX6_full, TX6, 36, rfl⟩
theorem ml_yX6_skip : nr_ML yX6_skip cX6_skip 1 none 0 := ⟨wc_yX6_skip, wn_RX6, ⟨by decide, by decide⟩, by decide +kernel, by decide⟩
theorem lv_RX6_116 : nr_LV RX6 116 6 yX6_skip cX6_skip 1 none 0 := ⟨wm_RX6_116, wi_yX6_skip, we_yX6_skip, ml_yX6_skip, TX6, 36, rfl⟩
theorem ml_yX6_opens : nr_ML yX6_opens cX6_opens 1 (some .boolean) 1 := ⟨wc_yX6_opens, wn_RX6, ⟨by decide, by decide⟩, by decide +kernel, by decide⟩
theorem ls_RX6_132 : nr_LS RX6 132 yX6_opens cX6_opens 1 (some .boolean) 1 := ⟨Or.inl wm_RX6_132, ws_yX6_opens, ml_yX6_opens⟩
theorem ml_yX6_meets : nr_ML yX6_meets cX6_meets 4 (some .boolean) 2 := ⟨wc_yX6_meets, wn_RX6, ⟨by decide, by decide⟩, by decide +kernel, by decide⟩
theorem lv_RX6_135 : nr_LV RX6 135 6 yX6_meets cX6_meets 4 (some .boolean) 2 := ⟨wm_RX6_135, wi_yX6_meets, we_yX6_meets, ml_yX6_meets, TX6, 36, rfl⟩
theorem ml_yX6_endsBy : nr_ML yX6_endsBy cX6_endsBy 1 (some .int) 1 := ⟨wc_yX6_endsBy, wn_RX6, ⟨by decide, by decide⟩, by decide +kernel, by decide⟩
theorem ls_RX6_139 : nr_LS RX6 139 yX6_endsBy cX6_endsBy 1 (some .int) 1 := ⟨Or.inl wm_RX6_139, ws_yX6_endsBy, ml_yX6_endsBy⟩
theorem ml_yX6_notes : nr_ML yX6_notes cX6_notes 2 none 1 := ⟨wc_yX6_notes, wn_RX6, ⟨by decide, by decide⟩, by decide +kernel, by decide⟩
theorem lv_RX6_172 : nr_LV RX6 172 6 yX6_notes cX6_notes 2 none 1 := ⟨wm_RX6_172, wi_yX6_notes, we_yX6_notes, ml_yX6_notes, TX6, 36, rfl⟩
theorem ml_yX6_isAsleep : nr_ML yX6_isAsleep cX6_isAsleep 2 (some .boolean) 1 := ⟨wc_yX6_isAsleep, wn_RX6, ⟨by decide, by decide⟩, by decide +kernel, by decide⟩
theorem lv_RX6_176 : nr_LV RX6 176 6 yX6_isAsleep cX6_isAsleep 2 (some .boolean) 1 := ⟨wm_RX6_176, wi_yX6_isAsleep, we_yX6_isAsleep, ml_yX6_isAsleep, TX6, 36, rfl⟩
theorem ml_yX6_shuts : nr_ML yX6_shuts cX6_shuts 2 none 1 := ⟨wc_yX6_shuts, wn_RX6, ⟨by decide, by decide⟩, by decide +kernel, by decide⟩
theorem lv_RX6_179 : nr_LV RX6 179 6 yX6_shuts cX6_shuts 2 none 1 := ⟨wm_RX6_179, wi_yX6_shuts, we_yX6_shuts, ml_yX6_shuts, TX6, 36, rfl⟩
theorem ml_yX6_befalls : nr_ML yX6_befalls cX6_befalls 3 none 2 := ⟨wc_yX6_befalls, wn_RX6, ⟨by decide, by decide⟩, by decide +kernel, by decide⟩
theorem lv_RX6_182 : nr_LV RX6 182 6 yX6_befalls cX6_befalls 3 none 2 := ⟨wm_RX6_182, wi_yX6_befalls, we_yX6_befalls, ml_yX6_befalls, TX6, 36, rfl⟩
theorem ml_yX6_pushes : nr_ML yX6_pushes cX6_pushes 4 none 3 := ⟨wc_yX6_pushes, wn_RX6, ⟨by decide, by decide⟩, by decide +kernel, by decide⟩
theorem lv_RX6_189 : nr_LV RX6 189 6 yX6_pushes cX6_pushes 4 none 3 := ⟨wm_RX6_189, wi_yX6_pushes, we_yX6_pushes, ml_yX6_pushes, TX6, 36, rfl⟩
theorem ml_yX6_behindByte : nr_ML yX6_behindByte cX6_behindByte 2 none 1 := ⟨wc_yX6_behindByte, wn_RX6, ⟨by decide, by decide⟩, by decide +kernel, by decide⟩
theorem lv_RX6_195 : nr_LV RX6 195 6 yX6_behindByte cX6_behindByte 2 none 1 := ⟨wm_RX6_195, wi_yX6_behindByte, we_yX6_behindByte, ml_yX6_behindByte, TX6, 36, rfl⟩
theorem ml_yX6_goesIn : nr_ML yX6_goesIn cX6_goesIn 4 none 1 := ⟨wc_yX6_goesIn, wn_RX6, ⟨by decide, by decide⟩, by decide +kernel, by decide⟩
theorem lv_RX6_198 : nr_LV RX6 198 6 yX6_goesIn cX6_goesIn 4 none 1 := ⟨wm_RX6_198, wi_yX6_goesIn, we_yX6_goesIn, ml_yX6_goesIn, TX6, 36, rfl⟩
theorem ml_yX6_figureFrom : nr_ML yX6_figureFrom cX6_figureFrom 3 (some .int) 1 := ⟨wc_yX6_figureFrom, wn_RX6, ⟨by decide, by decide⟩, by decide +kernel, by decide⟩
theorem lv_RX6_201 : nr_LV RX6 201 6 yX6_figureFrom cX6_figureFrom 3 (some .int) 1 := ⟨wm_RX6_201, wi_yX6_figureFrom, we_yX6_figureFrom, ml_yX6_figureFrom, TX6, 36, rfl⟩
theorem ml_yX6_takesKey : nr_ML yX6_takesKey cX6_takesKey 2 none 0 := ⟨wc_yX6_takesKey, wn_RX6, ⟨by decide, by decide⟩, by decide +kernel, by decide⟩
theorem lv_RX6_204 : nr_LV RX6 204 6 yX6_takesKey cX6_takesKey 2 none 0 := ⟨wm_RX6_204, wi_yX6_takesKey, we_yX6_takesKey, ml_yX6_takesKey, TX6, 36, rfl⟩
theorem ml_yX6_wakes : nr_ML yX6_wakes cX6_wakes 1 none 0 := ⟨wc_yX6_wakes, wn_RX6, ⟨by decide, by decide⟩, by decide +kernel, by decide⟩
theorem lv_RX6_207 : nr_LV RX6 207 6 yX6_wakes cX6_wakes 1 none 0 := ⟨wm_RX6_207, wi_yX6_wakes, we_yX6_wakes, ml_yX6_wakes, TX6, 36, rfl⟩
theorem ml_yX6_looksIn : nr_ML yX6_looksIn cX6_looksIn 1 none 0 := ⟨wc_yX6_looksIn, wn_RX6, ⟨by decide, by decide⟩, by decide +kernel, by decide⟩
theorem lv_RX6_210 : nr_LV RX6 210 6 yX6_looksIn cX6_looksIn 1 none 0 := ⟨wm_RX6_210, wi_yX6_looksIn, we_yX6_looksIn, ml_yX6_looksIn, TX6, 36, rfl⟩
theorem ml_yX6_pops : nr_ML yX6_pops cX6_pops 2 none 0 := ⟨wc_yX6_pops, wn_RX6, ⟨by decide, by decide⟩, by decide +kernel, by decide⟩
theorem lv_RX6_213 : nr_LV RX6 213 6 yX6_pops cX6_pops 2 none 0 := ⟨wm_RX6_213, wi_yX6_pops, we_yX6_pops, ml_yX6_pops, TX6, 36, rfl⟩
theorem ml_yX6_goesDown : nr_ML yX6_goesDown cX6_goesDown 5 none 0 := ⟨wc_yX6_goesDown, wn_RX6, ⟨by decide, by decide⟩, by decide +kernel, by decide⟩
theorem lv_RX6_216 : nr_LV RX6 216 6 yX6_goesDown cX6_goesDown 5 none 0 := ⟨wm_RX6_216, wi_yX6_goesDown, we_yX6_goesDown, ml_yX6_goesDown, TX6, 36, rfl⟩
theorem ml_yX6_endsAt : nr_ML yX6_endsAt cX6_endsAt 3 none 1 := ⟨wc_yX6_endsAt, wn_RX6, ⟨by decide, by decide⟩, by decide +kernel, by decide⟩
theorem lv_RX6_219 : nr_LV RX6 219 6 yX6_endsAt cX6_endsAt 3 none 1 := ⟨wm_RX6_219, wi_yX6_endsAt, we_yX6_endsAt, ml_yX6_endsAt, TX6, 36, rfl⟩
theorem ml_yX6_begins : nr_ML yX6_begins cX6_begins 4 none 1 := ⟨wc_yX6_begins, wn_RX6, ⟨by decide, by decide⟩, by decide +kernel, by decide⟩
theorem lv_RX6_222 : nr_LV RX6 222 6 yX6_begins cX6_begins 4 none 1 := ⟨wm_RX6_222, wi_yX6_begins, we_yX6_begins, ml_yX6_begins, TX6, 36, rfl⟩
theorem ml_yX6_reads : nr_ML yX6_reads cX6_reads 6 (some .int) 0 := ⟨wc_yX6_reads, wn_RX6, ⟨by decide, by decide⟩, by decide +kernel, by decide⟩
theorem lv_RX6_232 : nr_LV RX6 232 6 yX6_reads cX6_reads 6 (some .int) 0 := ⟨wm_RX6_232, wi_yX6_reads, we_yX6_reads, ml_yX6_reads, TX6, 36, rfl⟩
theorem ml_yX6_round : nr_ML yX6_round cX6_round 2 (some .int) 0 := ⟨wc_yX6_round, wn_RX6, ⟨by decide, by decide⟩, by decide +kernel, by decide⟩
theorem lv_RX6_235 : nr_LV RX6 235 6 yX6_round cX6_round 2 (some .int) 0 := ⟨wm_RX6_235, wi_yX6_round, we_yX6_round, ml_yX6_round, TX6, 36, rfl⟩
theorem ml_yX6_keepsWas : nr_ML yX6_keepsWas cX6_keepsWas 3 none 1 := ⟨wc_yX6_keepsWas, wn_RX6, ⟨by decide, by decide⟩, by decide +kernel, by decide⟩
theorem lv_RX6_238 : nr_LV RX6 238 6 yX6_keepsWas cX6_keepsWas 3 none 1 := ⟨wm_RX6_238, wi_yX6_keepsWas, we_yX6_keepsWas, ml_yX6_keepsWas, TX6, 36, rfl⟩
theorem ml_yX6_keep : nr_ML yX6_keep cX6_keep 2 none 0 := ⟨wc_yX6_keep, wn_RX6, ⟨by decide, by decide⟩, by decide +kernel, by decide⟩
theorem lv_RX6_241 : nr_LV RX6 241 6 yX6_keep cX6_keep 2 none 0 := ⟨wm_RX6_241, wi_yX6_keep, we_yX6_keep, ml_yX6_keep, TX6, 36, rfl⟩
theorem ml_yX6_bring : nr_ML yX6_bring cX6_bring 2 none 0 := ⟨wc_yX6_bring, wn_RX6, ⟨by decide, by decide⟩, by decide +kernel, by decide⟩
theorem lv_RX6_244 : nr_LV RX6 244 6 yX6_bring cX6_bring 2 none 0 := ⟨wm_RX6_244, wi_yX6_bring, we_yX6_bring, ml_yX6_bring, TX6, 36, rfl⟩
theorem ml_yX6_toldWas : nr_ML yX6_toldWas cX6_toldWas 2 (some .int) 1 := ⟨wc_yX6_toldWas, wn_RX6, ⟨by decide, by decide⟩, by decide +kernel, by decide⟩
theorem lv_RX6_247 : nr_LV RX6 247 6 yX6_toldWas cX6_toldWas 2 (some .int) 1 := ⟨wm_RX6_247, wi_yX6_toldWas, we_yX6_toldWas, ml_yX6_toldWas, TX6, 36, rfl⟩
theorem ml_yX6_bits : nr_ML yX6_bits cX6_bits 3 (some .int) 1 := ⟨wc_yX6_bits, wn_RX6, ⟨by decide, by decide⟩, by decide +kernel, by decide⟩
theorem ls_RX6_250 : nr_LS RX6 250 yX6_bits cX6_bits 3 (some .int) 1 := ⟨Or.inl wm_RX6_250, ws_yX6_bits, ml_yX6_bits⟩
theorem ml_yX6_endBy : nr_ML yX6_endBy cX6_endBy 3 (some .int) 1 := ⟨wc_yX6_endBy, wn_RX6, ⟨by decide, by decide⟩, by decide +kernel, by decide⟩
theorem lv_RX6_253 : nr_LV RX6 253 6 yX6_endBy cX6_endBy 3 (some .int) 1 := ⟨wm_RX6_253, wi_yX6_endBy, we_yX6_endBy, ml_yX6_endBy, TX6, 36, rfl⟩
theorem ml_yX6_atMost3 : nr_ML yX6_atMost3 cX6_atMost3 2 (some .int) 1 := ⟨wc_yX6_atMost3, wn_RX6, ⟨by decide, by decide⟩, by decide +kernel, by decide⟩
theorem ls_RX6_278 : nr_LS RX6 278 yX6_atMost3 cX6_atMost3 2 (some .int) 1 := ⟨Or.inl wm_RX6_278, ws_yX6_atMost3, ml_yX6_atMost3⟩
theorem ml_yX6_no : nr_ML yX6_no cX6_no 1 (some .int) 0 := ⟨wc_yX6_no, wn_RX6, ⟨by decide, by decide⟩, by decide +kernel, by decide⟩
theorem lv_RX6_288 : nr_LV RX6 288 6 yX6_no cX6_no 1 (some .int) 0 := ⟨wm_RX6_288, wi_yX6_no, we_yX6_no, ml_yX6_no, TX6, 36, rfl⟩
theorem ml_yX6_lamps : nr_ML yX6_lamps cX6_lamps 3 (some .int) 0 := ⟨wc_yX6_lamps, wn_RX6, ⟨by decide, by decide⟩, by decide +kernel, by decide⟩
theorem lv_RX6_291 : nr_LV RX6 291 6 yX6_lamps cX6_lamps 3 (some .int) 0 := ⟨wm_RX6_291, wi_yX6_lamps, we_yX6_lamps, ml_yX6_lamps, TX6, 36, rfl⟩
theorem ml_yX6_counted : nr_ML yX6_counted cX6_counted 2 (some .int) 1 := ⟨wc_yX6_counted, wn_RX6, ⟨by decide, by decide⟩, by decide +kernel, by decide⟩
theorem lv_RX6_294 : nr_LV RX6 294 6 yX6_counted cX6_counted 2 (some .int) 1 := ⟨wm_RX6_294, wi_yX6_counted, we_yX6_counted, ml_yX6_counted, TX6, 36, rfl⟩
end
