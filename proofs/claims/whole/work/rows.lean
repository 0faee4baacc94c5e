section
-- ===== PART A: goes FIRST, ahead of the names: the tables' words, and 'selects' of the private methods out of them =====
/-- a private method of a class that the tables say can be made, by its rows of tables_1 -/
def lw_okq (q : MethodName × Nat) : Prop := (q.1.cls ≠ "java/lang/invoke/MethodHandle" ∧ q.1.cls ≠ "java/lang/invoke/VarHandle") ∧ Cond.instantiable q.1.cls q.2 ∈ tables_1 ∧ Cond.privateMethod q.1 ∈ tables_1 ∧ Cond.instanceMethod q.1 ∈ tables_1
theorem lw_p0 : lw_okq (⟨"Cowmeadow", "closeTransaction", "()I"⟩, 4) := ⟨⟨by decide +kernel, by decide +kernel⟩, List.mem_of_getElem? (i := 18) (by decide +kernel), List.mem_of_getElem? (i := 197) (by decide +kernel), List.mem_of_getElem? (i := 198) (by decide +kernel)⟩
theorem lw_p1 : lw_okq (⟨"Cowmeadow$Space", "releasePending", "()V"⟩, 4) := ⟨⟨by decide +kernel, by decide +kernel⟩, List.mem_of_getElem? (i := 36) (by decide +kernel), List.mem_of_getElem? (i := 201) (by decide +kernel), List.mem_of_getElem? (i := 202) (by decide +kernel)⟩
theorem lw_p2 : lw_okq (⟨"Cowmeadow$Log", "record", "(LCowmeadow$Space;LCowmeadow$Space;)Z"⟩, 6) := ⟨⟨by decide +kernel, by decide +kernel⟩, List.mem_of_getElem? (i := 127) (by decide +kernel), List.mem_of_getElem? (i := 205) (by decide +kernel), List.mem_of_getElem? (i := 206) (by decide +kernel)⟩
theorem lw_p3 : lw_okq (⟨"Cowmeadow$Log", "markChanges", "(LCowmeadow$Space;LCowmeadow$Space;)V"⟩, 6) := ⟨⟨by decide +kernel, by decide +kernel⟩, List.mem_of_getElem? (i := 127) (by decide +kernel), List.mem_of_getElem? (i := 209) (by decide +kernel), List.mem_of_getElem? (i := 210) (by decide +kernel)⟩
theorem lw_p4 : lw_okq (⟨"Cowmeadow$Space", "isAllocated", "(I)Z"⟩, 4) := ⟨⟨by decide +kernel, by decide +kernel⟩, List.mem_of_getElem? (i := 36) (by decide +kernel), List.mem_of_getElem? (i := 213) (by decide +kernel), List.mem_of_getElem? (i := 214) (by decide +kernel)⟩
theorem lw_p5 : lw_okq (⟨"Cowmeadow$Log", "appendMarkedRuns", "(Z)V"⟩, 6) := ⟨⟨by decide +kernel, by decide +kernel⟩, List.mem_of_getElem? (i := 127) (by decide +kernel), List.mem_of_getElem? (i := 220) (by decide +kernel), List.mem_of_getElem? (i := 221) (by decide +kernel)⟩
theorem lw_p6 : lw_okq (⟨"Cowmeadow$Log", "append", "(IIZ)V"⟩, 6) := ⟨⟨by decide +kernel, by decide +kernel⟩, List.mem_of_getElem? (i := 127) (by decide +kernel), List.mem_of_getElem? (i := 224) (by decide +kernel), List.mem_of_getElem? (i := 225) (by decide +kernel)⟩
theorem lw_p7 : lw_okq (⟨"Cowmeadow$Log", "markAllocated", "(LCowmeadow$Space;)V"⟩, 6) := ⟨⟨by decide +kernel, by decide +kernel⟩, List.mem_of_getElem? (i := 127) (by decide +kernel), List.mem_of_getElem? (i := 231) (by decide +kernel), List.mem_of_getElem? (i := 232) (by decide +kernel)⟩
theorem lw_p8 : lw_okq (⟨"Cowmeadow$Log", "countMarkedRuns", "()I"⟩, 6) := ⟨⟨by decide +kernel, by decide +kernel⟩, List.mem_of_getElem? (i := 127) (by decide +kernel), List.mem_of_getElem? (i := 235) (by decide +kernel), List.mem_of_getElem? (i := 236) (by decide +kernel)⟩
theorem lw_p9 : lw_okq (⟨"Cowmeadow$Volume", "copyFrom", "(LCowmeadow$Volume;)V"⟩, 7) := ⟨⟨by decide +kernel, by decide +kernel⟩, List.mem_of_getElem? (i := 26) (by decide +kernel), List.mem_of_getElem? (i := 239) (by decide +kernel), List.mem_of_getElem? (i := 240) (by decide +kernel)⟩
theorem lw_p10 : lw_okq (⟨"Cowmeadow$Dataset", "copyFrom", "(LCowmeadow$Dataset;)V"⟩, 3) := ⟨⟨by decide +kernel, by decide +kernel⟩, List.mem_of_getElem? (i := 57) (by decide +kernel), List.mem_of_getElem? (i := 243) (by decide +kernel), List.mem_of_getElem? (i := 244) (by decide +kernel)⟩
theorem lw_p11 : lw_okq (⟨"Cowmeadow$Table", "copyFrom", "(LCowmeadow$Table;)V"⟩, 1) := ⟨⟨by decide +kernel, by decide +kernel⟩, List.mem_of_getElem? (i := 63) (by decide +kernel), List.mem_of_getElem? (i := 247) (by decide +kernel), List.mem_of_getElem? (i := 248) (by decide +kernel)⟩
theorem lw_p12 : lw_okq (⟨"Cowmeadow$Snapshot", "copyFrom", "(LCowmeadow$Snapshot;)V"⟩, 6) := ⟨⟨by decide +kernel, by decide +kernel⟩, List.mem_of_getElem? (i := 91) (by decide +kernel), List.mem_of_getElem? (i := 254) (by decide +kernel), List.mem_of_getElem? (i := 255) (by decide +kernel)⟩
theorem lw_p13 : lw_okq (⟨"Cowmeadow$Space", "copyFrom", "(LCowmeadow$Space;)V"⟩, 4) := ⟨⟨by decide +kernel, by decide +kernel⟩, List.mem_of_getElem? (i := 36) (by decide +kernel), List.mem_of_getElem? (i := 259) (by decide +kernel), List.mem_of_getElem? (i := 260) (by decide +kernel)⟩
theorem lw_p14 : lw_okq (⟨"Cowmeadow$Log", "copyFrom", "(LCowmeadow$Log;)V"⟩, 6) := ⟨⟨by decide +kernel, by decide +kernel⟩, List.mem_of_getElem? (i := 127) (by decide +kernel), List.mem_of_getElem? (i := 264) (by decide +kernel), List.mem_of_getElem? (i := 265) (by decide +kernel)⟩
theorem lw_p15 : lw_okq (⟨"Cowmeadow$Volume", "countDatasets", "()I"⟩, 7) := ⟨⟨by decide +kernel, by decide +kernel⟩, List.mem_of_getElem? (i := 26) (by decide +kernel), List.mem_of_getElem? (i := 280) (by decide +kernel), List.mem_of_getElem? (i := 281) (by decide +kernel)⟩
def lw_privs_1 : List (MethodName × Nat) := [(⟨"Cowmeadow", "closeTransaction", "()I"⟩, 4), (⟨"Cowmeadow$Space", "releasePending", "()V"⟩, 4), (⟨"Cowmeadow$Log", "record", "(LCowmeadow$Space;LCowmeadow$Space;)Z"⟩, 6), (⟨"Cowmeadow$Log", "markChanges", "(LCowmeadow$Space;LCowmeadow$Space;)V"⟩, 6), (⟨"Cowmeadow$Space", "isAllocated", "(I)Z"⟩, 4), (⟨"Cowmeadow$Log", "appendMarkedRuns", "(Z)V"⟩, 6), (⟨"Cowmeadow$Log", "append", "(IIZ)V"⟩, 6), (⟨"Cowmeadow$Log", "markAllocated", "(LCowmeadow$Space;)V"⟩, 6), (⟨"Cowmeadow$Log", "countMarkedRuns", "()I"⟩, 6), (⟨"Cowmeadow$Volume", "copyFrom", "(LCowmeadow$Volume;)V"⟩, 7), (⟨"Cowmeadow$Dataset", "copyFrom", "(LCowmeadow$Dataset;)V"⟩, 3), (⟨"Cowmeadow$Table", "copyFrom", "(LCowmeadow$Table;)V"⟩, 1), (⟨"Cowmeadow$Snapshot", "copyFrom", "(LCowmeadow$Snapshot;)V"⟩, 6), (⟨"Cowmeadow$Space", "copyFrom", "(LCowmeadow$Space;)V"⟩, 4), (⟨"Cowmeadow$Log", "copyFrom", "(LCowmeadow$Log;)V"⟩, 6), (⟨"Cowmeadow$Volume", "countDatasets", "()I"⟩, 7)]
theorem lw_r1 : ∀ q ∈ lw_privs_1, lw_okq q := List.forall_mem_cons.mpr ⟨lw_p0, List.forall_mem_cons.mpr ⟨lw_p1, List.forall_mem_cons.mpr ⟨lw_p2, List.forall_mem_cons.mpr ⟨lw_p3, List.forall_mem_cons.mpr ⟨lw_p4, List.forall_mem_cons.mpr ⟨lw_p5, List.forall_mem_cons.mpr ⟨lw_p6, List.forall_mem_cons.mpr ⟨lw_p7, List.forall_mem_cons.mpr ⟨lw_p8, List.forall_mem_cons.mpr ⟨lw_p9, List.forall_mem_cons.mpr ⟨lw_p10, List.forall_mem_cons.mpr ⟨lw_p11, List.forall_mem_cons.mpr ⟨lw_p12, List.forall_mem_cons.mpr ⟨lw_p13, List.forall_mem_cons.mpr ⟨lw_p14, List.forall_mem_cons.mpr ⟨lw_p15, fun _ h => absurd h List.not_mem_nil⟩⟩⟩⟩⟩⟩⟩⟩⟩⟩⟩⟩⟩⟩⟩⟩
theorem lw_p16 : lw_okq (⟨"Cowmeadow$Space", "count", "(III)I"⟩, 4) := ⟨⟨by decide +kernel, by decide +kernel⟩, List.mem_of_getElem? (i := 36) (by decide +kernel), List.mem_of_getElem? (i := 288) (by decide +kernel), List.mem_of_getElem? (i := 289) (by decide +kernel)⟩
theorem lw_p17 : lw_okq (⟨"Cowmeadow", "datasetOrThrow", "(I)LCowmeadow$Dataset;"⟩, 4) := ⟨⟨by decide +kernel, by decide +kernel⟩, List.mem_of_getElem? (i := 18) (by decide +kernel), List.mem_of_getElem? (i := 309) (by decide +kernel), List.mem_of_getElem? (i := 310) (by decide +kernel)⟩
theorem lw_p18 : lw_okq (⟨"Cowmeadow$Volume", "findDataset", "(I)LCowmeadow$Dataset;"⟩, 7) := ⟨⟨by decide +kernel, by decide +kernel⟩, List.mem_of_getElem? (i := 26) (by decide +kernel), List.mem_of_getElem? (i := 313) (by decide +kernel), List.mem_of_getElem? (i := 314) (by decide +kernel)⟩
theorem lw_p19 : lw_okq (⟨"java/lang/Throwable", "fillInStackTrace", "(I)Ljava/lang/Throwable;"⟩, 6) := ⟨⟨by decide +kernel, by decide +kernel⟩, List.mem_of_getElem? (i := 355) (by decide +kernel), List.mem_of_getElem? (i := 353) (by decide +kernel), List.mem_of_getElem? (i := 354) (by decide +kernel)⟩
theorem lw_p20 : lw_okq (⟨"Cowmeadow$Table", "blockOf", "(I)I"⟩, 1) := ⟨⟨by decide +kernel, by decide +kernel⟩, List.mem_of_getElem? (i := 63) (by decide +kernel), List.mem_of_getElem? (i := 390) (by decide +kernel), List.mem_of_getElem? (i := 391) (by decide +kernel)⟩
theorem lw_p21 : lw_okq (⟨"Cowmeadow$Space", "bornIn", "(II)Z"⟩, 4) := ⟨⟨by decide +kernel, by decide +kernel⟩, List.mem_of_getElem? (i := 36) (by decide +kernel), List.mem_of_getElem? (i := 394) (by decide +kernel), List.mem_of_getElem? (i := 395) (by decide +kernel)⟩
theorem lw_p22 : lw_okq (⟨"Cowmeadow$Space", "usesOf", "(I)I"⟩, 4) := ⟨⟨by decide +kernel, by decide +kernel⟩, List.mem_of_getElem? (i := 36) (by decide +kernel), List.mem_of_getElem? (i := 399) (by decide +kernel), List.mem_of_getElem? (i := 400) (by decide +kernel)⟩
theorem lw_p23 : lw_okq (⟨"Cowmeadow$Space", "setValue", "(II)V"⟩, 4) := ⟨⟨by decide +kernel, by decide +kernel⟩, List.mem_of_getElem? (i := 36) (by decide +kernel), List.mem_of_getElem? (i := 403) (by decide +kernel), List.mem_of_getElem? (i := 404) (by decide +kernel)⟩
theorem lw_p24 : lw_okq (⟨"Cowmeadow$Space", "nextFreeBlock", "()I"⟩, 4) := ⟨⟨by decide +kernel, by decide +kernel⟩, List.mem_of_getElem? (i := 36) (by decide +kernel), List.mem_of_getElem? (i := 407) (by decide +kernel), List.mem_of_getElem? (i := 408) (by decide +kernel)⟩
theorem lw_p25 : lw_okq (⟨"Cowmeadow$Space", "emptiestRegion", "()I"⟩, 4) := ⟨⟨by decide +kernel, by decide +kernel⟩, List.mem_of_getElem? (i := 36) (by decide +kernel), List.mem_of_getElem? (i := 411) (by decide +kernel), List.mem_of_getElem? (i := 412) (by decide +kernel)⟩
theorem lw_p26 : lw_okq (⟨"Cowmeadow$Space", "freeInRegion", "(I)I"⟩, 4) := ⟨⟨by decide +kernel, by decide +kernel⟩, List.mem_of_getElem? (i := 36) (by decide +kernel), List.mem_of_getElem? (i := 415) (by decide +kernel), List.mem_of_getElem? (i := 416) (by decide +kernel)⟩
theorem lw_p27 : lw_okq (⟨"Cowmeadow$Space", "allocate", "(III)V"⟩, 4) := ⟨⟨by decide +kernel, by decide +kernel⟩, List.mem_of_getElem? (i := 36) (by decide +kernel), List.mem_of_getElem? (i := 436) (by decide +kernel), List.mem_of_getElem? (i := 437) (by decide +kernel)⟩
theorem lw_p28 : lw_okq (⟨"Cowmeadow$Volume", "put", "(LCowmeadow$Table;II)V"⟩, 7) := ⟨⟨by decide +kernel, by decide +kernel⟩, List.mem_of_getElem? (i := 26) (by decide +kernel), List.mem_of_getElem? (i := 440) (by decide +kernel), List.mem_of_getElem? (i := 441) (by decide +kernel)⟩
theorem lw_p29 : lw_okq (⟨"Cowmeadow$Space", "removeUse", "(I)V"⟩, 4) := ⟨⟨by decide +kernel, by decide +kernel⟩, List.mem_of_getElem? (i := 36) (by decide +kernel), List.mem_of_getElem? (i := 445) (by decide +kernel), List.mem_of_getElem? (i := 446) (by decide +kernel)⟩
theorem lw_p30 : lw_okq (⟨"Cowmeadow$Space", "addUse", "(I)V"⟩, 4) := ⟨⟨by decide +kernel, by decide +kernel⟩, List.mem_of_getElem? (i := 36) (by decide +kernel), List.mem_of_getElem? (i := 449) (by decide +kernel), List.mem_of_getElem? (i := 450) (by decide +kernel)⟩
theorem lw_p31 : lw_okq (⟨"Cowmeadow$Table", "set", "(II)V"⟩, 1) := ⟨⟨by decide +kernel, by decide +kernel⟩, List.mem_of_getElem? (i := 63) (by decide +kernel), List.mem_of_getElem? (i := 453) (by decide +kernel), List.mem_of_getElem? (i := 454) (by decide +kernel)⟩
def lw_privs_2 : List (MethodName × Nat) := [(⟨"Cowmeadow$Space", "count", "(III)I"⟩, 4), (⟨"Cowmeadow", "datasetOrThrow", "(I)LCowmeadow$Dataset;"⟩, 4), (⟨"Cowmeadow$Volume", "findDataset", "(I)LCowmeadow$Dataset;"⟩, 7), (⟨"java/lang/Throwable", "fillInStackTrace", "(I)Ljava/lang/Throwable;"⟩, 6), (⟨"Cowmeadow$Table", "blockOf", "(I)I"⟩, 1), (⟨"Cowmeadow$Space", "bornIn", "(II)Z"⟩, 4), (⟨"Cowmeadow$Space", "usesOf", "(I)I"⟩, 4), (⟨"Cowmeadow$Space", "setValue", "(II)V"⟩, 4), (⟨"Cowmeadow$Space", "nextFreeBlock", "()I"⟩, 4), (⟨"Cowmeadow$Space", "emptiestRegion", "()I"⟩, 4), (⟨"Cowmeadow$Space", "freeInRegion", "(I)I"⟩, 4), (⟨"Cowmeadow$Space", "allocate", "(III)V"⟩, 4), (⟨"Cowmeadow$Volume", "put", "(LCowmeadow$Table;II)V"⟩, 7), (⟨"Cowmeadow$Space", "removeUse", "(I)V"⟩, 4), (⟨"Cowmeadow$Space", "addUse", "(I)V"⟩, 4), (⟨"Cowmeadow$Table", "set", "(II)V"⟩, 1)]
theorem lw_r2 : ∀ q ∈ lw_privs_2, lw_okq q := List.forall_mem_cons.mpr ⟨lw_p16, List.forall_mem_cons.mpr ⟨lw_p17, List.forall_mem_cons.mpr ⟨lw_p18, List.forall_mem_cons.mpr ⟨lw_p19, List.forall_mem_cons.mpr ⟨lw_p20, List.forall_mem_cons.mpr ⟨lw_p21, List.forall_mem_cons.mpr ⟨lw_p22, List.forall_mem_cons.mpr ⟨lw_p23, List.forall_mem_cons.mpr ⟨lw_p24, List.forall_mem_cons.mpr ⟨lw_p25, List.forall_mem_cons.mpr ⟨lw_p26, List.forall_mem_cons.mpr ⟨lw_p27, List.forall_mem_cons.mpr ⟨lw_p28, List.forall_mem_cons.mpr ⟨lw_p29, List.forall_mem_cons.mpr ⟨lw_p30, List.forall_mem_cons.mpr ⟨lw_p31, fun _ h => absurd h List.not_mem_nil⟩⟩⟩⟩⟩⟩⟩⟩⟩⟩⟩⟩⟩⟩⟩⟩
theorem lw_p32 : lw_okq (⟨"Cowmeadow$Volume", "settle", "()I"⟩, 7) := ⟨⟨by decide +kernel, by decide +kernel⟩, List.mem_of_getElem? (i := 26) (by decide +kernel), List.mem_of_getElem? (i := 457) (by decide +kernel), List.mem_of_getElem? (i := 458) (by decide +kernel)⟩
theorem lw_p33 : lw_okq (⟨"Cowmeadow$Space", "retireUnused", "(I)I"⟩, 4) := ⟨⟨by decide +kernel, by decide +kernel⟩, List.mem_of_getElem? (i := 36) (by decide +kernel), List.mem_of_getElem? (i := 461) (by decide +kernel), List.mem_of_getElem? (i := 462) (by decide +kernel)⟩
theorem lw_p34 : lw_okq (⟨"Cowmeadow$Space", "valueOf", "(I)I"⟩, 4) := ⟨⟨by decide +kernel, by decide +kernel⟩, List.mem_of_getElem? (i := 36) (by decide +kernel), List.mem_of_getElem? (i := 472) (by decide +kernel), List.mem_of_getElem? (i := 473) (by decide +kernel)⟩
theorem lw_p35 : lw_okq (⟨"Cowmeadow", "take", "(LCowmeadow$Table;II)V"⟩, 4) := ⟨⟨by decide +kernel, by decide +kernel⟩, List.mem_of_getElem? (i := 18) (by decide +kernel), List.mem_of_getElem? (i := 525) (by decide +kernel), List.mem_of_getElem? (i := 526) (by decide +kernel)⟩
theorem lw_p36 : lw_okq (⟨"Cowmeadow$Volume", "unusedSnapshot", "()LCowmeadow$Snapshot;"⟩, 7) := ⟨⟨by decide +kernel, by decide +kernel⟩, List.mem_of_getElem? (i := 26) (by decide +kernel), List.mem_of_getElem? (i := 536) (by decide +kernel), List.mem_of_getElem? (i := 537) (by decide +kernel)⟩
theorem lw_p37 : lw_okq (⟨"Cowmeadow$Volume", "take", "(LCowmeadow$Snapshot;LCowmeadow$Dataset;I)V"⟩, 7) := ⟨⟨by decide +kernel, by decide +kernel⟩, List.mem_of_getElem? (i := 26) (by decide +kernel), List.mem_of_getElem? (i := 541) (by decide +kernel), List.mem_of_getElem? (i := 542) (by decide +kernel)⟩
theorem lw_p38 : lw_okq (⟨"Cowmeadow$Volume", "snapshotsOf", "(I)I"⟩, 7) := ⟨⟨by decide +kernel, by decide +kernel⟩, List.mem_of_getElem? (i := 26) (by decide +kernel), List.mem_of_getElem? (i := 545) (by decide +kernel), List.mem_of_getElem? (i := 546) (by decide +kernel)⟩
theorem lw_p39 : lw_okq (⟨"Cowmeadow$Snapshot", "belongsTo", "(I)Z"⟩, 6) := ⟨⟨by decide +kernel, by decide +kernel⟩, List.mem_of_getElem? (i := 91) (by decide +kernel), List.mem_of_getElem? (i := 549) (by decide +kernel), List.mem_of_getElem? (i := 550) (by decide +kernel)⟩
theorem lw_p40 : lw_okq (⟨"Cowmeadow$Volume", "fill", "(LCowmeadow$Table;LCowmeadow$Table;)V"⟩, 7) := ⟨⟨by decide +kernel, by decide +kernel⟩, List.mem_of_getElem? (i := 26) (by decide +kernel), List.mem_of_getElem? (i := 553) (by decide +kernel), List.mem_of_getElem? (i := 554) (by decide +kernel)⟩
theorem lw_p41 : lw_okq (⟨"Cowmeadow", "snapshotOrThrow", "(I)LCowmeadow$Snapshot;"⟩, 4) := ⟨⟨by decide +kernel, by decide +kernel⟩, List.mem_of_getElem? (i := 18) (by decide +kernel), List.mem_of_getElem? (i := 565) (by decide +kernel), List.mem_of_getElem? (i := 566) (by decide +kernel)⟩
theorem lw_p42 : lw_okq (⟨"Cowmeadow$Volume", "findSnapshot", "(I)LCowmeadow$Snapshot;"⟩, 7) := ⟨⟨by decide +kernel, by decide +kernel⟩, List.mem_of_getElem? (i := 26) (by decide +kernel), List.mem_of_getElem? (i := 569) (by decide +kernel), List.mem_of_getElem? (i := 570) (by decide +kernel)⟩
theorem lw_p43 : lw_okq (⟨"Cowmeadow$Volume", "snapshotOfRank", "(II)LCowmeadow$Snapshot;"⟩, 7) := ⟨⟨by decide +kernel, by decide +kernel⟩, List.mem_of_getElem? (i := 26) (by decide +kernel), List.mem_of_getElem? (i := 610) (by decide +kernel), List.mem_of_getElem? (i := 611) (by decide +kernel)⟩
theorem lw_p44 : lw_okq (⟨"Cowmeadow$Volume", "isOrigin", "(I)Z"⟩, 7) := ⟨⟨by decide +kernel, by decide +kernel⟩, List.mem_of_getElem? (i := 26) (by decide +kernel), List.mem_of_getElem? (i := 622) (by decide +kernel), List.mem_of_getElem? (i := 623) (by decide +kernel)⟩
theorem lw_p45 : lw_okq (⟨"Cowmeadow$Volume", "drop", "(LCowmeadow$Snapshot;)V"⟩, 7) := ⟨⟨by decide +kernel, by decide +kernel⟩, List.mem_of_getElem? (i := 26) (by decide +kernel), List.mem_of_getElem? (i := 627) (by decide +kernel), List.mem_of_getElem? (i := 628) (by decide +kernel)⟩
theorem lw_p46 : lw_okq (⟨"Cowmeadow$Volume", "isBehind", "(LCowmeadow$Snapshot;LCowmeadow$Snapshot;)Z"⟩, 7) := ⟨⟨by decide +kernel, by decide +kernel⟩, List.mem_of_getElem? (i := 26) (by decide +kernel), List.mem_of_getElem? (i := 631) (by decide +kernel), List.mem_of_getElem? (i := 632) (by decide +kernel)⟩
theorem lw_p47 : lw_okq (⟨"Cowmeadow$Volume", "clear", "(LCowmeadow$Table;)V"⟩, 7) := ⟨⟨by decide +kernel, by decide +kernel⟩, List.mem_of_getElem? (i := 26) (by decide +kernel), List.mem_of_getElem? (i := 635) (by decide +kernel), List.mem_of_getElem? (i := 636) (by decide +kernel)⟩
def lw_privs_3 : List (MethodName × Nat) := [(⟨"Cowmeadow$Volume", "settle", "()I"⟩, 7), (⟨"Cowmeadow$Space", "retireUnused", "(I)I"⟩, 4), (⟨"Cowmeadow$Space", "valueOf", "(I)I"⟩, 4), (⟨"Cowmeadow", "take", "(LCowmeadow$Table;II)V"⟩, 4), (⟨"Cowmeadow$Volume", "unusedSnapshot", "()LCowmeadow$Snapshot;"⟩, 7), (⟨"Cowmeadow$Volume", "take", "(LCowmeadow$Snapshot;LCowmeadow$Dataset;I)V"⟩, 7), (⟨"Cowmeadow$Volume", "snapshotsOf", "(I)I"⟩, 7), (⟨"Cowmeadow$Snapshot", "belongsTo", "(I)Z"⟩, 6), (⟨"Cowmeadow$Volume", "fill", "(LCowmeadow$Table;LCowmeadow$Table;)V"⟩, 7), (⟨"Cowmeadow", "snapshotOrThrow", "(I)LCowmeadow$Snapshot;"⟩, 4), (⟨"Cowmeadow$Volume", "findSnapshot", "(I)LCowmeadow$Snapshot;"⟩, 7), (⟨"Cowmeadow$Volume", "snapshotOfRank", "(II)LCowmeadow$Snapshot;"⟩, 7), (⟨"Cowmeadow$Volume", "isOrigin", "(I)Z"⟩, 7), (⟨"Cowmeadow$Volume", "drop", "(LCowmeadow$Snapshot;)V"⟩, 7), (⟨"Cowmeadow$Volume", "isBehind", "(LCowmeadow$Snapshot;LCowmeadow$Snapshot;)Z"⟩, 7), (⟨"Cowmeadow$Volume", "clear", "(LCowmeadow$Table;)V"⟩, 7)]
theorem lw_r3 : ∀ q ∈ lw_privs_3, lw_okq q := List.forall_mem_cons.mpr ⟨lw_p32, List.forall_mem_cons.mpr ⟨lw_p33, List.forall_mem_cons.mpr ⟨lw_p34, List.forall_mem_cons.mpr ⟨lw_p35, List.forall_mem_cons.mpr ⟨lw_p36, List.forall_mem_cons.mpr ⟨lw_p37, List.forall_mem_cons.mpr ⟨lw_p38, List.forall_mem_cons.mpr ⟨lw_p39, List.forall_mem_cons.mpr ⟨lw_p40, List.forall_mem_cons.mpr ⟨lw_p41, List.forall_mem_cons.mpr ⟨lw_p42, List.forall_mem_cons.mpr ⟨lw_p43, List.forall_mem_cons.mpr ⟨lw_p44, List.forall_mem_cons.mpr ⟨lw_p45, List.forall_mem_cons.mpr ⟨lw_p46, List.forall_mem_cons.mpr ⟨lw_p47, fun _ h => absurd h List.not_mem_nil⟩⟩⟩⟩⟩⟩⟩⟩⟩⟩⟩⟩⟩⟩⟩⟩
theorem lw_p48 : lw_okq (⟨"Cowmeadow$Volume", "hasOriginBehind", "(LCowmeadow$Snapshot;)Z"⟩, 7) := ⟨⟨by decide +kernel, by decide +kernel⟩, List.mem_of_getElem? (i := 26) (by decide +kernel), List.mem_of_getElem? (i := 647) (by decide +kernel), List.mem_of_getElem? (i := 648) (by decide +kernel)⟩
theorem lw_p49 : lw_okq (⟨"Cowmeadow$Volume", "dropBehind", "(LCowmeadow$Snapshot;)I"⟩, 7) := ⟨⟨by decide +kernel, by decide +kernel⟩, List.mem_of_getElem? (i := 26) (by decide +kernel), List.mem_of_getElem? (i := 654) (by decide +kernel), List.mem_of_getElem? (i := 655) (by decide +kernel)⟩
theorem lw_p50 : lw_okq (⟨"Cowmeadow$Volume", "unusedDataset", "()I"⟩, 7) := ⟨⟨by decide +kernel, by decide +kernel⟩, List.mem_of_getElem? (i := 26) (by decide +kernel), List.mem_of_getElem? (i := 673) (by decide +kernel), List.mem_of_getElem? (i := 674) (by decide +kernel)⟩
theorem lw_p51 : lw_okq (⟨"Cowmeadow$Volume", "branch", "(ILCowmeadow$Snapshot;)V"⟩, 7) := ⟨⟨by decide +kernel, by decide +kernel⟩, List.mem_of_getElem? (i := 26) (by decide +kernel), List.mem_of_getElem? (i := 678) (by decide +kernel), List.mem_of_getElem? (i := 679) (by decide +kernel)⟩
theorem lw_p52 : lw_okq (⟨"Cowmeadow$Volume", "handOver", "(LCowmeadow$Snapshot;I)V"⟩, 7) := ⟨⟨by decide +kernel, by decide +kernel⟩, List.mem_of_getElem? (i := 26) (by decide +kernel), List.mem_of_getElem? (i := 697) (by decide +kernel), List.mem_of_getElem? (i := 698) (by decide +kernel)⟩
theorem lw_p53 : lw_okq (⟨"Cowmeadow", "countUses", "(LCowmeadow$Table;)V"⟩, 4) := ⟨⟨by decide +kernel, by decide +kernel⟩, List.mem_of_getElem? (i := 18) (by decide +kernel), List.mem_of_getElem? (i := 718) (by decide +kernel), List.mem_of_getElem? (i := 719) (by decide +kernel)⟩
theorem lw_p54 : lw_okq (⟨"Cowmeadow", "countOwn", "(LCowmeadow$Table;)I"⟩, 4) := ⟨⟨by decide +kernel, by decide +kernel⟩, List.mem_of_getElem? (i := 18) (by decide +kernel), List.mem_of_getElem? (i := 730) (by decide +kernel), List.mem_of_getElem? (i := 731) (by decide +kernel)⟩
theorem lw_p55 : lw_okq (⟨"Cowmeadow$Space", "birthOf", "(I)I"⟩, 4) := ⟨⟨by decide +kernel, by decide +kernel⟩, List.mem_of_getElem? (i := 36) (by decide +kernel), List.mem_of_getElem? (i := 748) (by decide +kernel), List.mem_of_getElem? (i := 749) (by decide +kernel)⟩
theorem lw_p56 : lw_okq (⟨"Cowmeadow", "logOrThrow", "(I)LCowmeadow$Log;"⟩, 4) := ⟨⟨by decide +kernel, by decide +kernel⟩, List.mem_of_getElem? (i := 18) (by decide +kernel), List.mem_of_getElem? (i := 791) (by decide +kernel), List.mem_of_getElem? (i := 792) (by decide +kernel)⟩
theorem lw_p57 : lw_okq (⟨"Cowmeadow", "logWithEntryOrThrow", "(II)LCowmeadow$Log;"⟩, 4) := ⟨⟨by decide +kernel, by decide +kernel⟩, List.mem_of_getElem? (i := 18) (by decide +kernel), List.mem_of_getElem? (i := 802) (by decide +kernel), List.mem_of_getElem? (i := 803) (by decide +kernel)⟩
theorem lw_p58 : lw_okq (⟨"Cowmeadow$Log", "firstOf", "(I)I"⟩, 6) := ⟨⟨by decide +kernel, by decide +kernel⟩, List.mem_of_getElem? (i := 127) (by decide +kernel), List.mem_of_getElem? (i := 807) (by decide +kernel), List.mem_of_getElem? (i := 808) (by decide +kernel)⟩
theorem lw_p59 : lw_okq (⟨"Cowmeadow$Log", "blocksOf", "(I)I"⟩, 6) := ⟨⟨by decide +kernel, by decide +kernel⟩, List.mem_of_getElem? (i := 127) (by decide +kernel), List.mem_of_getElem? (i := 811) (by decide +kernel), List.mem_of_getElem? (i := 812) (by decide +kernel)⟩
theorem lw_p60 : lw_okq (⟨"Cowmeadow$Log", "isAllocation", "(I)Z"⟩, 6) := ⟨⟨by decide +kernel, by decide +kernel⟩, List.mem_of_getElem? (i := 127) (by decide +kernel), List.mem_of_getElem? (i := 822) (by decide +kernel), List.mem_of_getElem? (i := 823) (by decide +kernel)⟩
theorem lw_p61 : lw_okq (⟨"Cowmeadow$Log", "countReplayed", "()I"⟩, 6) := ⟨⟨by decide +kernel, by decide +kernel⟩, List.mem_of_getElem? (i := 127) (by decide +kernel), List.mem_of_getElem? (i := 833) (by decide +kernel), List.mem_of_getElem? (i := 834) (by decide +kernel)⟩
theorem lw_p62 : lw_okq (⟨"Cowmeadow$Log", "replayEntry", "(I)V"⟩, 6) := ⟨⟨by decide +kernel, by decide +kernel⟩, List.mem_of_getElem? (i := 127) (by decide +kernel), List.mem_of_getElem? (i := 837) (by decide +kernel), List.mem_of_getElem? (i := 838) (by decide +kernel)⟩
theorem lw_p63 : lw_okq (⟨"CowmeadowModel", "isSet", "(I)Z"⟩, 5) := ⟨⟨by decide +kernel, by decide +kernel⟩, List.mem_of_getElem? (i := 844) (by decide +kernel), List.mem_of_getElem? (i := 874) (by decide +kernel), List.mem_of_getElem? (i := 875) (by decide +kernel)⟩
def lw_privs_4 : List (MethodName × Nat) := [(⟨"Cowmeadow$Volume", "hasOriginBehind", "(LCowmeadow$Snapshot;)Z"⟩, 7), (⟨"Cowmeadow$Volume", "dropBehind", "(LCowmeadow$Snapshot;)I"⟩, 7), (⟨"Cowmeadow$Volume", "unusedDataset", "()I"⟩, 7), (⟨"Cowmeadow$Volume", "branch", "(ILCowmeadow$Snapshot;)V"⟩, 7), (⟨"Cowmeadow$Volume", "handOver", "(LCowmeadow$Snapshot;I)V"⟩, 7), (⟨"Cowmeadow", "countUses", "(LCowmeadow$Table;)V"⟩, 4), (⟨"Cowmeadow", "countOwn", "(LCowmeadow$Table;)I"⟩, 4), (⟨"Cowmeadow$Space", "birthOf", "(I)I"⟩, 4), (⟨"Cowmeadow", "logOrThrow", "(I)LCowmeadow$Log;"⟩, 4), (⟨"Cowmeadow", "logWithEntryOrThrow", "(II)LCowmeadow$Log;"⟩, 4), (⟨"Cowmeadow$Log", "firstOf", "(I)I"⟩, 6), (⟨"Cowmeadow$Log", "blocksOf", "(I)I"⟩, 6), (⟨"Cowmeadow$Log", "isAllocation", "(I)Z"⟩, 6), (⟨"Cowmeadow$Log", "countReplayed", "()I"⟩, 6), (⟨"Cowmeadow$Log", "replayEntry", "(I)V"⟩, 6), (⟨"CowmeadowModel", "isSet", "(I)Z"⟩, 5)]
theorem lw_r4 : ∀ q ∈ lw_privs_4, lw_okq q := List.forall_mem_cons.mpr ⟨lw_p48, List.forall_mem_cons.mpr ⟨lw_p49, List.forall_mem_cons.mpr ⟨lw_p50, List.forall_mem_cons.mpr ⟨lw_p51, List.forall_mem_cons.mpr ⟨lw_p52, List.forall_mem_cons.mpr ⟨lw_p53, List.forall_mem_cons.mpr ⟨lw_p54, List.forall_mem_cons.mpr ⟨lw_p55, List.forall_mem_cons.mpr ⟨lw_p56, List.forall_mem_cons.mpr ⟨lw_p57, List.forall_mem_cons.mpr ⟨lw_p58, List.forall_mem_cons.mpr ⟨lw_p59, List.forall_mem_cons.mpr ⟨lw_p60, List.forall_mem_cons.mpr ⟨lw_p61, List.forall_mem_cons.mpr ⟨lw_p62, List.forall_mem_cons.mpr ⟨lw_p63, fun _ h => absurd h List.not_mem_nil⟩⟩⟩⟩⟩⟩⟩⟩⟩⟩⟩⟩⟩⟩⟩⟩
theorem lw_p64 : lw_okq (⟨"CowmeadowModel", "nextFree", "()I"⟩, 5) := ⟨⟨by decide +kernel, by decide +kernel⟩, List.mem_of_getElem? (i := 844) (by decide +kernel), List.mem_of_getElem? (i := 890) (by decide +kernel), List.mem_of_getElem? (i := 891) (by decide +kernel)⟩
theorem lw_p65 : lw_okq (⟨"CowmeadowModel", "countFree", "(II)I"⟩, 5) := ⟨⟨by decide +kernel, by decide +kernel⟩, List.mem_of_getElem? (i := 844) (by decide +kernel), List.mem_of_getElem? (i := 894) (by decide +kernel), List.mem_of_getElem? (i := 895) (by decide +kernel)⟩
theorem lw_p66 : lw_okq (⟨"CowmeadowModel", "isFree", "(I)Z"⟩, 5) := ⟨⟨by decide +kernel, by decide +kernel⟩, List.mem_of_getElem? (i := 844) (by decide +kernel), List.mem_of_getElem? (i := 898) (by decide +kernel), List.mem_of_getElem? (i := 899) (by decide +kernel)⟩
theorem lw_p67 : lw_okq (⟨"CowmeadowModel", "counts", "()I"⟩, 5) := ⟨⟨by decide +kernel, by decide +kernel⟩, List.mem_of_getElem? (i := 844) (by decide +kernel), List.mem_of_getElem? (i := 902) (by decide +kernel), List.mem_of_getElem? (i := 903) (by decide +kernel)⟩
theorem lw_p68 : lw_okq (⟨"CowmeadowModel", "isKnown", "(III)Z"⟩, 5) := ⟨⟨by decide +kernel, by decide +kernel⟩, List.mem_of_getElem? (i := 844) (by decide +kernel), List.mem_of_getElem? (i := 910) (by decide +kernel), List.mem_of_getElem? (i := 911) (by decide +kernel)⟩
theorem lw_p69 : lw_okq (⟨"CowmeadowModel", "fits", "(ZZ)Z"⟩, 5) := ⟨⟨by decide +kernel, by decide +kernel⟩, List.mem_of_getElem? (i := 844) (by decide +kernel), List.mem_of_getElem? (i := 914) (by decide +kernel), List.mem_of_getElem? (i := 915) (by decide +kernel)⟩
theorem lw_p70 : lw_okq (⟨"CowmeadowModel", "valueAt", "(I)I"⟩, 5) := ⟨⟨by decide +kernel, by decide +kernel⟩, List.mem_of_getElem? (i := 844) (by decide +kernel), List.mem_of_getElem? (i := 918) (by decide +kernel), List.mem_of_getElem? (i := 919) (by decide +kernel)⟩
theorem lw_p71 : lw_okq (⟨"CowmeadowModel", "commits", "()I"⟩, 5) := ⟨⟨by decide +kernel, by decide +kernel⟩, List.mem_of_getElem? (i := 844) (by decide +kernel), List.mem_of_getElem? (i := 942) (by decide +kernel), List.mem_of_getElem? (i := 943) (by decide +kernel)⟩
theorem lw_p72 : lw_okq (⟨"CowmeadowModel", "runs", "(IIZ)I"⟩, 5) := ⟨⟨by decide +kernel, by decide +kernel⟩, List.mem_of_getElem? (i := 844) (by decide +kernel), List.mem_of_getElem? (i := 946) (by decide +kernel), List.mem_of_getElem? (i := 947) (by decide +kernel)⟩
theorem lw_p73 : lw_okq (⟨"CowmeadowModel", "isLogged", "(II)Z"⟩, 5) := ⟨⟨by decide +kernel, by decide +kernel⟩, List.mem_of_getElem? (i := 844) (by decide +kernel), List.mem_of_getElem? (i := 950) (by decide +kernel), List.mem_of_getElem? (i := 951) (by decide +kernel)⟩
theorem lw_p74 : lw_okq (⟨"CowmeadowModel", "isAllocated", "(I)Z"⟩, 5) := ⟨⟨by decide +kernel, by decide +kernel⟩, List.mem_of_getElem? (i := 844) (by decide +kernel), List.mem_of_getElem? (i := 954) (by decide +kernel), List.mem_of_getElem? (i := 955) (by decide +kernel)⟩
theorem lw_p75 : lw_okq (⟨"CowmeadowModel", "isShot", "(III)Z"⟩, 5) := ⟨⟨by decide +kernel, by decide +kernel⟩, List.mem_of_getElem? (i := 844) (by decide +kernel), List.mem_of_getElem? (i := 974) (by decide +kernel), List.mem_of_getElem? (i := 975) (by decide +kernel)⟩
theorem lw_p76 : lw_okq (⟨"CowmeadowModel", "slotOf", "(I)I"⟩, 5) := ⟨⟨by decide +kernel, by decide +kernel⟩, List.mem_of_getElem? (i := 844) (by decide +kernel), List.mem_of_getElem? (i := 978) (by decide +kernel), List.mem_of_getElem? (i := 979) (by decide +kernel)⟩
theorem lw_p77 : lw_okq (⟨"CowmeadowModel", "inShot", "(III)I"⟩, 5) := ⟨⟨by decide +kernel, by decide +kernel⟩, List.mem_of_getElem? (i := 844) (by decide +kernel), List.mem_of_getElem? (i := 982) (by decide +kernel), List.mem_of_getElem? (i := 983) (by decide +kernel)⟩
theorem lw_p78 : lw_okq (⟨"CowmeadowModel", "isOrigin", "(I)Z"⟩, 5) := ⟨⟨by decide +kernel, by decide +kernel⟩, List.mem_of_getElem? (i := 844) (by decide +kernel), List.mem_of_getElem? (i := 1010) (by decide +kernel), List.mem_of_getElem? (i := 1011) (by decide +kernel)⟩
theorem lw_p79 : lw_okq (⟨"CowmeadowModel", "drops", "(I)V"⟩, 5) := ⟨⟨by decide +kernel, by decide +kernel⟩, List.mem_of_getElem? (i := 844) (by decide +kernel), List.mem_of_getElem? (i := 1014) (by decide +kernel), List.mem_of_getElem? (i := 1015) (by decide +kernel)⟩
def lw_privs_5 : List (MethodName × Nat) := [(⟨"CowmeadowModel", "nextFree", "()I"⟩, 5), (⟨"CowmeadowModel", "countFree", "(II)I"⟩, 5), (⟨"CowmeadowModel", "isFree", "(I)Z"⟩, 5), (⟨"CowmeadowModel", "counts", "()I"⟩, 5), (⟨"CowmeadowModel", "isKnown", "(III)Z"⟩, 5), (⟨"CowmeadowModel", "fits", "(ZZ)Z"⟩, 5), (⟨"CowmeadowModel", "valueAt", "(I)I"⟩, 5), (⟨"CowmeadowModel", "commits", "()I"⟩, 5), (⟨"CowmeadowModel", "runs", "(IIZ)I"⟩, 5), (⟨"CowmeadowModel", "isLogged", "(II)Z"⟩, 5), (⟨"CowmeadowModel", "isAllocated", "(I)Z"⟩, 5), (⟨"CowmeadowModel", "isShot", "(III)Z"⟩, 5), (⟨"CowmeadowModel", "slotOf", "(I)I"⟩, 5), (⟨"CowmeadowModel", "inShot", "(III)I"⟩, 5), (⟨"CowmeadowModel", "isOrigin", "(I)Z"⟩, 5), (⟨"CowmeadowModel", "drops", "(I)V"⟩, 5)]
theorem lw_r5 : ∀ q ∈ lw_privs_5, lw_okq q := List.forall_mem_cons.mpr ⟨lw_p64, List.forall_mem_cons.mpr ⟨lw_p65, List.forall_mem_cons.mpr ⟨lw_p66, List.forall_mem_cons.mpr ⟨lw_p67, List.forall_mem_cons.mpr ⟨lw_p68, List.forall_mem_cons.mpr ⟨lw_p69, List.forall_mem_cons.mpr ⟨lw_p70, List.forall_mem_cons.mpr ⟨lw_p71, List.forall_mem_cons.mpr ⟨lw_p72, List.forall_mem_cons.mpr ⟨lw_p73, List.forall_mem_cons.mpr ⟨lw_p74, List.forall_mem_cons.mpr ⟨lw_p75, List.forall_mem_cons.mpr ⟨lw_p76, List.forall_mem_cons.mpr ⟨lw_p77, List.forall_mem_cons.mpr ⟨lw_p78, List.forall_mem_cons.mpr ⟨lw_p79, fun _ h => absurd h List.not_mem_nil⟩⟩⟩⟩⟩⟩⟩⟩⟩⟩⟩⟩⟩⟩⟩⟩
theorem lw_p80 : lw_okq (⟨"CowmeadowModel", "placeOf", "(I)I"⟩, 5) := ⟨⟨by decide +kernel, by decide +kernel⟩, List.mem_of_getElem? (i := 844) (by decide +kernel), List.mem_of_getElem? (i := 1018) (by decide +kernel), List.mem_of_getElem? (i := 1019) (by decide +kernel)⟩
theorem lw_p81 : lw_okq (⟨"CowmeadowModel", "countSets", "()I"⟩, 5) := ⟨⟨by decide +kernel, by decide +kernel⟩, List.mem_of_getElem? (i := 844) (by decide +kernel), List.mem_of_getElem? (i := 1034) (by decide +kernel), List.mem_of_getElem? (i := 1035) (by decide +kernel)⟩
theorem lw_p82 : lw_okq (⟨"CowmeadowModel", "blocksIn", "(IZ)I"⟩, 5) := ⟨⟨by decide +kernel, by decide +kernel⟩, List.mem_of_getElem? (i := 844) (by decide +kernel), List.mem_of_getElem? (i := 1058) (by decide +kernel), List.mem_of_getElem? (i := 1059) (by decide +kernel)⟩
theorem lw_p83 : lw_okq (⟨"CowmeadowModel", "isRegion", "(I)Z"⟩, 5) := ⟨⟨by decide +kernel, by decide +kernel⟩, List.mem_of_getElem? (i := 844) (by decide +kernel), List.mem_of_getElem? (i := 1094) (by decide +kernel), List.mem_of_getElem? (i := 1095) (by decide +kernel)⟩
theorem lw_p84 : lw_okq (⟨"CowmeadowModel", "isEntry", "(II)Z"⟩, 5) := ⟨⟨by decide +kernel, by decide +kernel⟩, List.mem_of_getElem? (i := 844) (by decide +kernel), List.mem_of_getElem? (i := 1106) (by decide +kernel), List.mem_of_getElem? (i := 1107) (by decide +kernel)⟩
def lw_privs_6 : List (MethodName × Nat) := [(⟨"CowmeadowModel", "placeOf", "(I)I"⟩, 5), (⟨"CowmeadowModel", "countSets", "()I"⟩, 5), (⟨"CowmeadowModel", "blocksIn", "(IZ)I"⟩, 5), (⟨"CowmeadowModel", "isRegion", "(I)Z"⟩, 5), (⟨"CowmeadowModel", "isEntry", "(II)Z"⟩, 5)]
theorem lw_r6 : ∀ q ∈ lw_privs_6, lw_okq q := List.forall_mem_cons.mpr ⟨lw_p80, List.forall_mem_cons.mpr ⟨lw_p81, List.forall_mem_cons.mpr ⟨lw_p82, List.forall_mem_cons.mpr ⟨lw_p83, List.forall_mem_cons.mpr ⟨lw_p84, fun _ h => absurd h List.not_mem_nil⟩⟩⟩⟩⟩
def lw_privs : List (MethodName × Nat) := lw_privs_1 ++ (lw_privs_2 ++ (lw_privs_3 ++ (lw_privs_4 ++ (lw_privs_5 ++ (lw_privs_6)))))
def lw_tbl : List Cond := k2_sels lw_privs ++ tables_1
theorem lw_privs_ok : ∀ q ∈ lw_privs, lw_okq q := by
  show ∀ q ∈ lw_privs_1 ++ (lw_privs_2 ++ (lw_privs_3 ++ (lw_privs_4 ++ (lw_privs_5 ++ (lw_privs_6))))), lw_okq q
  exact List.forall_mem_append.mpr ⟨lw_r1, List.forall_mem_append.mpr ⟨lw_r2, List.forall_mem_append.mpr ⟨lw_r3, List.forall_mem_append.mpr ⟨lw_r4, List.forall_mem_append.mpr ⟨lw_r5, lw_r6⟩⟩⟩⟩⟩
end
section
/-! ===== BEGIN words of one list among another's, by their places ===== -/
theorem goodIn_r {big : List Cond} (ws : List Cond) (ps : List Nat) (hp : ws = ps.filterMap (fun i => big[i]?)) (h : ws.all goodWord = true) : GoodIn big ws := by
  intro w hw
  have h1 := List.all_eq_true.mp h w hw
  rw [hp] at hw
  obtain ⟨i, -, hi⟩ := List.mem_filterMap.mp hw
  have hm : w ∈ big := by first | exact List.mem_of_getElem? hi | exact List.getElem?_mem hi
  exact ⟨hm, good_of_word h1⟩
theorem goodIn_app {big a b : List Cond} (ha : GoodIn big a) (hb : GoodIn big b) : GoodIn big (a ++ b) := fun w h => (List.mem_append.mp h).elim (ha w) (hb w)
theorem goodIn_ca {big a b : List Cond} {c : Cond} (ha : GoodIn big (c :: a)) (hb : GoodIn big b) : GoodIn big (c :: (a ++ b)) := fun w h => (List.mem_cons.mp h).elim (fun e => ha w (List.mem_cons.mpr (Or.inl e))) (fun h => (List.mem_append.mp h).elim (fun h => ha w (List.mem_cons.mpr (Or.inr h))) (hb w))
theorem goodIn_sub {big ws : List Cond} (hm : ∀ w ∈ ws, w ∈ big) (h : ws.all goodWord = true) : GoodIn big ws := fun w hw => ⟨hm w hw, good_of_word (List.all_eq_true.mp h w hw)⟩
/-! ===== END ===== -/

/-! ===== BEGIN exceptions that leave a method, and their catching by the caller (launches without stack traces) ===== -/
section VXA
/-! The laws vx_back, vx_callV, vx_callS, vx_callSW, vx_throw0, vx_throwS follow proofs of the library, with one case more: JvmDerived/Free/Laws.lean (Back.of_free), Shelf42/LK1.lean (callV, callS), Shelf/KitTraced.lean (throwNew0V, throwNewS). -/
/-- where a method has thrown q: the class by its name, the cell, what was written, the world -/
def vx_T (XC : String → State → State → Prop) (st : State) (q : Addr) (t : State) (mc ms : Nat) (free : Addr → Prop) : Prop :=
  ∃ (E : String) (ce : Cell) (L : List Loc), XC E st t ∧ t.heap[q]? = some ce ∧ ce.vm = .none ∧ st.vm.findClass E = some ce.cls ∧ st.WarmedH t.vm ∧ st.sameButNew ({ t with vm := st.vm } : State) L mc ms ∧ ∀ z ∈ L, free z.base
def vx_Q (Qc : Array Value → State → Outcome → State → Prop) (XC : String → State → State → Prop) (mc ms : Nat) (free : Addr → Prop) : Array Value → State → Outcome → State → Prop := fun a st o t =>
  (Qc a st o t ∧ ∃ L, FrameEnd st o t L mc ms ∧ ∀ q ∈ L, free q.base) ∨ ∃ q, o = .threw q ∧ vx_T XC st q t mc ms free
/-- a callee that returns or throws -/
def vx_Met (l : Launch) (y : MethodName) (ws : List Cond) (rm : Room) (Pc : Array Value → State → Prop) (Qc : Array Value → State → Outcome → State → Prop) (XC : String → State → State → Prop) (mc ms : Nat) (free : Addr → Prop) : Prop :=
  MetFree l y (headSpec ws rm) Pc (fun _ _ _ _ _ => True) (vx_Q Qc XC mc ms free)
def vx_Post (XC : String → State → State → Prop) (mc ms : Nat) (free : Addr → Prop) : Pt → Array Value → Addr → Pt → Prop := fun A a q B =>
  ∃ (g : JFrame) (mk : MethodId) (t : State) (L : List Loc) (E : String) (ce : Cell), B.U.heap = t.heap ∧ B.U.vm = t.vm ∧ XC E (A.U.calling g mk a) t ∧ t.heap[q]? = some ce ∧ ce.vm = .none ∧ A.U.vm.findClass E = some ce.cls ∧ B.locs = A.locs ++ L ∧ (∀ z ∈ L, free z.base) ∧ B.cells = A.cells + mc ∧ B.slots = A.slots + ms
def vx_Back (l : Launch) (R : Room) (p : Program) (e : Env) (below : List Frame) (s : State) (sargs : Array Value) (y : MethodName) (len W9 : Nat)
    (Pre : Pt → Array Value → Prop) (Post : Pt → Array Value → Option Value → Pt → Prop) (PostX : Pt → Array Value → Addr → Pt → Prop) : Prop :=
  ∀ (m : MethodId) (meth : Method) (c : Code) (A : Pt) (g : JFrame) (ig : Instr) (mk : MethodId) (a : Array Value),
    Stand p l e R s m sargs below meth c A.U A.locs A.cells A.slots → g.method = m → g.locals.size = c.maxLocals → decode c.code g.pc = .ok (ig, len) →
    2 * g.monitorRoom + (g.stack.map fun v => v.category).sum ≤ W9 → A.U.methodNamed? y = some mk → Pre A a →
    (∃ (v : Option Value) (B : Pt), Stand p l e R s m sargs below meth c B.U B.locs B.cells B.slots ∧ Post A a v B ∧
      Steps p.tables e below (doInvoke e (A.U.setTop g) [] mk a).1 (B.U.setTop { g with pc := g.pc + len, stack := v.toList ++ g.stack })) ∨
    (∃ (q : Addr) (B : Pt), Stand p l e R s m sargs below meth c B.U B.locs B.cells B.slots ∧ PostX A a q B ∧
      Steps p.tables e below (doInvoke e (A.U.setTop g) [] mk a).1 ((B.U.setTop g).pushFrame (.throwing q)))
section Payer
variable {l : Launch} {R : Room} {p : Program} {e : Env} {below : List Frame} {s : State} {sargs : Array Value} {y : MethodName} {len W9 : Nat}
theorem vx_back {ws : List Cond} {rm : Room} {Pc : Array Value → State → Prop} {Qc : Array Value → State → Outcome → State → Prop} {XC : String → State → State → Prop} {mc ms : Nat} {free : Addr → Prop} {bytes : ByteArray} {maxL : Nat} {ret : Option FieldType}
    (hM : vx_Met l y ws rm Pc Qc XC mc ms free) (hblind : FrameBlind Pc) (hrc : rm.cells = mc) (hrs : rm.slots = ms)
    (hframes : rm.frames + 1 ≤ R.frames) (hlocals : W9 + (maxL + 11) + rm.locals ≤ R.locals)
    (hws : ∀ w ∈ ws, ∀ a' U, s.WarmedH U.vm → w.before a' U = true) (hcode : Cond.code y bytes maxL ret ∈ ws) (hinit : ∀ a' U, s.WarmedH U.vm → (Cond.initialized y.cls).before a' U = true) :
    vx_Back l R p e below s sargs y len W9 (PreOf R mc ms Pc) (PostOf Qc mc ms free) (vx_Post XC mc ms free) := by
  intro m meth c A g ig mk a X hg hsize hdg hW hn hp
  have h1 : (headSpec ws rm).pre.before a A.U = true := atoms_intro fun w hw => hws w hw _ _ X.warmed
  have h2 : (Cond.code y bytes maxL ret).before a A.U = true := hws _ hcode _ _ X.warmed
  have h3 : (Cond.initialized y.cls).before a A.U = true := hinit _ _ X.warmed
  have h4 : A.cells + (headSpec ws rm).room.cells ≤ R.cells := by rw [show (headSpec ws rm).room.cells = mc from hrc]; exact hp.1
  have h5 : A.slots + (headSpec ws rm).room.slots ≤ R.slots := by rw [show (headSpec ws rm).room.slots = ms from hrs]; exact hp.2.1
  have hPc : Pc a (A.U.calling g mk a) := hblind _ _ _ _ hp.2.2
  obtain ⟨U, Ls, c0, s0⟩ := A
  dsimp only [Pt.U, Pt.locs, Pt.cells, Pt.slots] at h1 h2 h3 h4 h5 X hn hPc ⊢
  obtain ⟨methY, cY, hmY, hcY, -, hlY, -, -, -, -⟩ := Cond.code_spec hn h2
  obtain ⟨kY, hkY, -⟩ := className_of_methodNamed hn
  have hinitY : kY.init = .initialized := Cond.initialized_spec (findClass_of_methodNamed hn) hkY h3
  have h : At U g.method c below := by rw [hg]; exact X.here
  have hlocals9 : W9 + (maxL + 11) + (headSpec ws rm).room.locals ≤ R.locals := hlocals
  have happ : (headSpec ws rm).appliesLoose y e.platform (U.calling g mk a) = true :=
    Spec.appliesLoose_calling (g := g) h hdg hn hkY hinitY
      (X.room_calling (g := g) (R' := (headSpec ws rm).room) hsize hmY hcY hframes (by rw [hlY]; omega) h4 h5) h1
  obtain ⟨mid, hmid⟩ := h.above
  have hfr : (U.setTop g).frames = (.java g :: mid) ++ below := by rw [State.frames_setTop' g h.top, hmid]; rfl
  obtain ⟨o, s₂, hsteps, -, hend, hq⟩ := Steps.callFree hM p X.admits X.cas X.clock (acts := []) hfr happ hPc trivial
  have hq' : vx_Q Qc XC mc ms free a (U.calling g mk a) o s₂ := hq
  rw [State.frames_setTop' g h.top] at hend
  obtain ⟨g₀, hg0⟩ := Option.isSome_iff_exists.mp h.top
  obtain ⟨r, hr⟩ := State.topJava?_eq_some.mp hg0
  have hr' : (({ U with heap := s₂.heap, slotsUsed := s₂.slotsUsed } : State).setVm s₂.vm).frames = .java g₀ :: r := hr
  rcases hq' with ⟨hqc, L, hfe, hL⟩ | ⟨q, rfl, E, ce, L, hx, hce, hcv, hcl, hW₂, hsm, hL⟩
  · obtain ⟨⟨v, rfl⟩, hW₂, e2, q2, q3, q4, q5, q6⟩ := id hfe
    have e3 : s₂ = ({ (U.calling g mk a).setFrames s₂.frames with heap := s₂.heap, slotsUsed := s₂.slotsUsed } : State).setVm s₂.vm := by
      have : s₂ = ({ s₂ with vm := (U.calling g mk a).vm } : State).setVm s₂.vm := rfl
      rw [e2] at this
      exact this
    obtain ⟨c₂, i₂, len₂, hc₂, hd₂, hf₂⟩ := hend
    have hW' : U.WarmedH s₂.vm := hW₂
    have hcc : c₂ = c := by
      have h1 : s₂.code? g.method = U.code? g.method := by
        rw [State.code?_eq, State.code?_eq, hW'.alike.method?]
      exact Option.some.inj (hc₂.symm.trans (h1.trans h.code))
    subst hcc
    have hlen : len₂ = len := by rw [hdg] at hd₂; cases hd₂; rfl
    subst hlen
    have hs₂ : s₂ = (({ U with heap := s₂.heap, slotsUsed := s₂.slotsUsed } : State).setVm s₂.vm).setTop { g with pc := g.pc + len₂, stack := v.toList ++ g.stack } := by
      refine e3.trans ?_
      rw [hf₂, State.calling_eq h.top, State.setFrames_setFrames, State.setTop_of_frames _ hr', hr]
      rfl
    have hsame : U.sameButNew ({ U with heap := s₂.heap, slotsUsed := s₂.slotsUsed } : State) L mc ms := by
      refine ⟨?_, q2, q3, q4, q5, q6⟩
      obtain ⟨t, ht, -⟩ := State.frames_cons hr
      show ({ U with heap := s₂.heap, slotsUsed := s₂.slotsUsed } : State) = { U.setFrames U.frames with heap := s₂.heap, slotsUsed := s₂.slotsUsed }
      rw [State.setFrames_self ht]
    subst hg
    refine Or.inl ⟨v, ⟨(({ U with heap := s₂.heap, slotsUsed := s₂.slotsUsed } : State).setVm s₂.vm), Ls ++ L, c0 + mc, s0 + ms⟩,
      ⟨X.admits, X.cas, X.clock, X.frames, X.room, X.hears, X.method, X.code, (X.here.setHeapUsed s₂.heap s₂.slotsUsed).setVm hW'.alike, X.tail, State.WarmedH.trans X.warmed hW', X.limits, X.bytes, X.same.trans (hsame.setVm s.vm)⟩,
      ⟨g, mk, s₂, L, rfl, rfl, hqc, rfl, hL, rfl, rfl⟩, ?_⟩
    show Steps p.tables e below _ ((({ U with heap := s₂.heap, slotsUsed := s₂.slotsUsed } : State).setVm s₂.vm).setTop { g with pc := g.pc + len₂, stack := v.toList ++ g.stack })
    rw [← hs₂]
    exact hsteps
  · obtain ⟨e2, q2, q3, q4, q5, q6⟩ := id hsm
    have e3 : s₂ = ({ (U.calling g mk a).setFrames s₂.frames with heap := s₂.heap, slotsUsed := s₂.slotsUsed } : State).setVm s₂.vm := by
      have : s₂ = ({ s₂ with vm := (U.calling g mk a).vm } : State).setVm s₂.vm := rfl
      rw [e2] at this
      exact this
    have hf₂ : s₂.frames = .throwing q :: .java g :: U.frames.tail := hend
    have hW' : U.WarmedH s₂.vm := hW₂
    have hs₂ : s₂ = ((({ U with heap := s₂.heap, slotsUsed := s₂.slotsUsed } : State).setVm s₂.vm).setTop g).pushFrame (.throwing q) := by
      refine e3.trans ?_
      rw [hf₂, State.calling_eq h.top, State.setFrames_setFrames, State.pushFrame, State.frames_setTop _ hr', State.setTop_of_frames _ hr', State.setFrames_setFrames, hr]
      rfl
    have hsame : U.sameButNew ({ U with heap := s₂.heap, slotsUsed := s₂.slotsUsed } : State) L mc ms := by
      refine ⟨?_, q2, q3, q4, q5, q6⟩
      obtain ⟨t, ht, -⟩ := State.frames_cons hr
      show ({ U with heap := s₂.heap, slotsUsed := s₂.slotsUsed } : State) = { U.setFrames U.frames with heap := s₂.heap, slotsUsed := s₂.slotsUsed }
      rw [State.setFrames_self ht]
    subst hg
    refine Or.inr ⟨q, ⟨(({ U with heap := s₂.heap, slotsUsed := s₂.slotsUsed } : State).setVm s₂.vm), Ls ++ L, c0 + mc, s0 + ms⟩,
      ⟨X.admits, X.cas, X.clock, X.frames, X.room, X.hears, X.method, X.code, (X.here.setHeapUsed s₂.heap s₂.slotsUsed).setVm hW'.alike, X.tail, State.WarmedH.trans X.warmed hW', X.limits, X.bytes, X.same.trans (hsame.setVm s.vm)⟩,
      ⟨g, mk, s₂, L, E, ce, rfl, rfl, hx, hce, hcv, hcl, rfl, hL, rfl, rfl⟩, ?_⟩
    show Steps p.tables e below _ (((({ U with heap := s₂.heap, slotsUsed := s₂.slotsUsed } : State).setVm s₂.vm).setTop g).pushFrame (.throwing q))
    rw [← hs₂]
    exact hsteps
end Payer
section Calls
variable {p : Program} {l : Launch} {e : Env} {R : Room} {s : State} {m : MethodId} {args : Array Value} {below : List Frame} {meth : Method} {c : Code} {T : State} {locs : List Loc} {cells slots : Nat}
theorem vx_callV (X : Stand p l e R s m args below meth c T locs cells slots) (hexec : p.tables.exec = Jvm.exec) {own C : String} {index : Nat} {y : MethodName} {bytes : ByteArray} {maxL : Nat} {ret : Option FieldType}
    (hown : s.vm.findClass own = some m.cls) (hlink : (Cond.methodLink own index y).before args s = true) (hinst : (Cond.instanceMethod y).before args s = true) (hsel : (Cond.selects C y y).before args s = true)
    (hcode : (Cond.code y bytes maxL ret).before args s = true) (hy : y.cls ≠ "java/lang/invoke/MethodHandle" ∧ y.cls ≠ "java/lang/invoke/VarHandle")
    {W9 : Nat} {Pre : Pt → Array Value → Prop} {Post : Pt → Array Value → Option Value → Pt → Prop} {PostX : Pt → Array Value → Addr → Pt → Prop} (hK : vx_Back l R p e below s args y 3 W9 Pre Post PostX)
    {b : Addr} {cellB : Cell} (hcell : T.heap[b]? = some cellB) (hobj : cellB.vm.isStatics = false) (hcls : s.vm.findClass C = some cellB.cls)
    {g : JFrame} (hg : g.method = m) (hsize : g.locals.size = c.maxLocals) {argsL rest : List Value} (hlen : ∀ sig, parseMethodDescriptor y.desc = some sig → argsL.length = sig.parameters.length)
    (hstack : g.stack = argsL.reverse ++ .ref b :: rest) (hW : 2 * g.monitorRoom + (rest.map fun v => v.category).sum ≤ W9) (hdg : decode c.code g.pc = .ok (.invokevirtual index, 3))
    (hpre : ∀ vm₁, s.WarmedH vm₁ → Pre ⟨T.setVm vm₁, locs, cells, slots⟩ (Value.ref b :: argsL).toArray) :
    (∃ (v : Option Value) (vm₁ : Vm) (B : Pt), s.WarmedH vm₁ ∧ Stand p l e R s m args below meth c B.U B.locs B.cells B.slots ∧ Post ⟨T.setVm vm₁, locs, cells, slots⟩ (Value.ref b :: argsL).toArray v B ∧
      ∀ target, Steps p.tables e below (B.U.setTop { g with pc := g.pc + 3, stack := v.toList ++ rest }) target → Steps p.tables e below (T.setTop g) target) ∨
    (∃ (q : Addr) (vm₁ : Vm) (B : Pt), s.WarmedH vm₁ ∧ Stand p l e R s m args below meth c B.U B.locs B.cells B.slots ∧ PostX ⟨T.setVm vm₁, locs, cells, slots⟩ (Value.ref b :: argsL).toArray q B ∧
      Steps p.tables e below (T.setTop g) ((B.U.setTop { g with stack := rest }).pushFrame (.throwing q))) := by
  obtain ⟨mk, methM, hnamed, hmethM, hstM, habM⟩ := Cond.instanceMethod_spec hinst
  obtain ⟨methM', cM, hmethM', -, -, -, -, -, -, hsigM⟩ := Cond.code_spec hnamed hcode
  cases hmethM.symm.trans hmethM'
  obtain ⟨c2, r2, m2, q1, q2, q3, q4, kP, hkP, hkPi⟩ := Cond.selects_spec hsel
  cases hcls.symm.trans q1
  cases (State.methodFound?_of_named hnamed hy).symm.trans q2
  cases hnamed.symm.trans q3
  have hselP : selectMethod e.platform s.vm cellB.cls mk = .method mk := by rw [Launch.admits_selectMethod X.admits]; exact q4
  obtain ⟨vm₁, X₁, hstep₁⟩ := X.invokevirtual hexec hown hlink hnamed hmethM hstM hkP hkPi hy (a := b) (cell := cellB) hcell
    (fun z h => by rw [h] at hobj; cases hobj) hselP hmethM habM hkP hkPi (g := g) hg (argsL := argsL) (rest := rest) (hlen _ hsigM) hstack hdg
  rcases hK m meth c ⟨T.setVm vm₁, locs, cells, slots⟩ { g with stack := rest } (.invokevirtual index) mk (Value.ref b :: argsL).toArray X₁ hg hsize hdg hW (X₁.named hnamed) (hpre vm₁ X₁.warmed) with ⟨v, B, X', hpost, hsteps⟩ | ⟨q, B, X', hpost, hsteps⟩
  · exact Or.inl ⟨v, vm₁, B, X₁.warmed, X', hpost, fun target h => hstep₁ _ fun acts => by rw [doInvoke_state]; exact hsteps.trans h⟩
  · exact Or.inr ⟨q, vm₁, B, X₁.warmed, X', hpost, hstep₁ _ fun acts => by rw [doInvoke_state]; exact hsteps⟩
theorem vx_callS (X : Stand p l e R s m args below meth c T locs cells slots) (hexec : p.tables.exec = Jvm.exec) {own : String} {index : Nat} {y : MethodName} {bytes : ByteArray} {maxL : Nat} {ret : Option FieldType}
    (hown : s.vm.findClass own = some m.cls) (hlink : (Cond.methodLink own index y).before args s = true) (hstat : (Cond.static y).before args s = true) (hinit : (Cond.initialized y.cls).before args s = true)
    (hcode : (Cond.code y bytes maxL ret).before args s = true) (hy : y.cls ≠ "java/lang/invoke/MethodHandle" ∧ y.cls ≠ "java/lang/invoke/VarHandle")
    {W9 : Nat} {Pre : Pt → Array Value → Prop} {Post : Pt → Array Value → Option Value → Pt → Prop} {PostX : Pt → Array Value → Addr → Pt → Prop} (hK : vx_Back l R p e below s args y 3 W9 Pre Post PostX)
    {g : JFrame} (hg : g.method = m) (hsize : g.locals.size = c.maxLocals) {argsL rest : List Value} (hlen : ∀ sig, parseMethodDescriptor y.desc = some sig → argsL.length = sig.parameters.length)
    (hstack : g.stack = argsL.reverse ++ rest) (hW : 2 * g.monitorRoom + (rest.map fun v => v.category).sum ≤ W9) (hdg : decode c.code g.pc = .ok (.invokestatic index, 3))
    (hpre : ∀ vm₁, s.WarmedH vm₁ → Pre ⟨T.setVm vm₁, locs, cells, slots⟩ argsL.toArray) :
    (∃ (v : Option Value) (vm₁ : Vm) (B : Pt), s.WarmedH vm₁ ∧ Stand p l e R s m args below meth c B.U B.locs B.cells B.slots ∧ Post ⟨T.setVm vm₁, locs, cells, slots⟩ argsL.toArray v B ∧
      ∀ target, Steps p.tables e below (B.U.setTop { g with pc := g.pc + 3, stack := v.toList ++ rest }) target → Steps p.tables e below (T.setTop g) target) ∨
    (∃ (q : Addr) (vm₁ : Vm) (B : Pt), s.WarmedH vm₁ ∧ Stand p l e R s m args below meth c B.U B.locs B.cells B.slots ∧ PostX ⟨T.setVm vm₁, locs, cells, slots⟩ argsL.toArray q B ∧
      Steps p.tables e below (T.setTop g) ((B.U.setTop { g with stack := rest }).pushFrame (.throwing q))) := by
  obtain ⟨mk, hnamed⟩ := Cond.code_named hcode
  obtain ⟨methM, cM, hmethM, -, -, -, -, -, -, hsigM⟩ := Cond.code_spec hnamed hcode
  have hstatic : methM.isStatic = true := Cond.static_spec hnamed hmethM hstat
  obtain ⟨kP, hkP, -⟩ := className_of_methodNamed hnamed
  have hinitP : kP.init = .initialized := Cond.initialized_spec (findClass_of_methodNamed hnamed) hkP hinit
  obtain ⟨vm₁, X₁, hstep₁⟩ := X.invokestatic hexec hown hlink hnamed hmethM hstatic hkP hinitP hy (g := g) hg (argsL := argsL) (rest := rest) (hlen _ hsigM) hstack hdg
  rcases hK m meth c ⟨T.setVm vm₁, locs, cells, slots⟩ { g with stack := rest } (.invokestatic index) mk argsL.toArray X₁ hg hsize hdg hW (X₁.named hnamed) (hpre vm₁ X₁.warmed) with ⟨v, B, X', hpost, hsteps⟩ | ⟨q, B, X', hpost, hsteps⟩
  · exact Or.inl ⟨v, vm₁, B, X₁.warmed, X', hpost, fun target h => hstep₁ _ fun acts => by rw [doInvoke_state]; exact hsteps.trans h⟩
  · exact Or.inr ⟨q, vm₁, B, X₁.warmed, X', hpost, hstep₁ _ fun acts => by rw [doInvoke_state]; exact hsteps⟩
end Calls
theorem vx_cls {s : State} {T : State} {vm₁ : Vm} {E : String} {k : ClassId} (hW : s.WarmedH vm₁) (h : (T.setVm vm₁).vm.findClass E = some k) : s.vm.findClass E = some k := by
  have h1 : vm₁.findClass E = some k := h
  rw [hW.alike.findClass] at h1
  exact h1
/-- the method's frame g, with q thrown over it -/
def vx_W (p : Program) (l : Launch) (e : Env) (R : Room) (s : State) (m : MethodId) (args : Array Value) (below : List Frame) (meth : Method) (c : Code) (H : Heap) (locs : List Loc) (cells slots : Nat) (Q : State → Prop) (g : JFrame) (q : Addr) : Prop :=
  ∀ T : State, T.heap = H → Stand p l e R s m args below meth c T locs cells slots → ∃ t, Steps p.tables e below ((T.setTop g).pushFrame (.throwing q)) t ∧ Q t
def vx_Run (p : Program) (l : Launch) (e : Env) (R : Room) (s : State) (m : MethodId) (args : Array Value) (below : List Frame) (meth : Method) (c : Code) (H : Heap) (locs : List Loc) (cells slots mc ms : Nat) (g : JFrame) (rest : List Value) (Qa : State → Outcome → State → Prop) (XC : String → State → State → Prop) (free : Addr → Prop) : Prop :=
  ∀ T : State, T.heap = H → Stand p l e R s m args below meth c T locs cells slots →
    (∃ (v : Option Value) (st₀ t T' : State) (L : List Loc), st₀.heap = H ∧ Stand p l e R s m args below meth c T' (locs ++ L) (cells + mc) (slots + ms) ∧ (∀ q ∈ L, free q.base) ∧ T'.heap = t.heap ∧ T'.vm = t.vm ∧ Qa st₀ (.returned v) t ∧
      Goes p e below T g T' { g with pc := g.pc + 3, stack := v.toList ++ rest }) ∨
    (∃ (q : Addr) (st₀ t T' : State) (L : List Loc) (E : String) (ce : Cell), st₀.heap = H ∧ Stand p l e R s m args below meth c T' (locs ++ L) (cells + mc) (slots + ms) ∧ (∀ z ∈ L, free z.base) ∧ T'.heap = t.heap ∧ T'.vm = t.vm ∧ XC E st₀ t ∧ t.heap[q]? = some ce ∧ ce.vm = .none ∧ s.vm.findClass E = some ce.cls ∧
      Steps p.tables e below (T.setTop g) ((T'.setTop { g with stack := rest }).pushFrame (.throwing q)))
def vx_X {S : Type} (px : S → Prop) (B : String → S → State → Prop) (A : Nat → Prop) : String → State → State → Prop := fun E st t => ∃ u : S, px u ∧ B E u t ∧ va_F A st t
section Runs
variable {p : Program} {l : Launch} {e : Env} {R : Room} {s : State} {m : MethodId} {args : Array Value} {below : List Frame} {meth : Method} {c : Code} {H : Heap} {locs : List Loc} {cells slots : Nat}
variable {y : MethodName} {bytes cc : ByteArray} {maxL nL mc ms n index : Nat} {ret : Option FieldType} {ws : List Cond} {rm : Room} {Pc : Array Value → State → Prop} {Qc : Array Value → State → Outcome → State → Prop} {XC : String → State → State → Prop} {free : Addr → Prop} {Ts : List Cond} {own C : String} {b : Addr} {As rest : List Value} {g : JFrame}
theorem vx_callBack (cb : CallB R s args own index y bytes maxL ret ws rm mc ms n) (hM : vx_Met l y ws rm Pc Qc XC mc ms free) (hbl : FrameBlind Pc) : vx_Back l R p e below s args y 3 8 (PreOf R mc ms Pc) (PostOf Qc mc ms free) (vx_Post XC mc ms free) := by
  obtain ⟨hrc, hrs, hfr, hlo, hws, hcw, -, hini, -⟩ := cb
  exact vx_back (bytes := bytes) (maxL := maxL) (ret := ret) hM hbl hrc hrs hfr hlo hws hcw (fun a' U hW => word_at hW (Or.inl (by first | rfl | simp [Cond.onTables, Cond.keeps, Cond.steady])) hini)
theorem vx_runV (S : CallFix p m c cc nL s args Ts own) (hM : vx_Met l y ws rm Pc Qc XC mc ms free) (cw : CallW R s args own C index y bytes maxL ret ws rm mc ms n) (hp : PreV s H C b Pc As)
    (hg : g.method = m) (hn : As.length = n) (hsize : g.locals.size = nL) (hstack : g.stack = As.reverse ++ .ref b :: rest) (hW : 2 * g.monitorRoom + (rest.map fun v => v.category).sum ≤ 8) (hdg : decode cc g.pc = .ok (.invokevirtual index, 3)) (hf : cells + mc ≤ R.cells ∧ slots + ms ≤ R.slots) :
    vx_Run p l e R s m args below meth c H locs cells slots mc ms g rest (Qc (Value.ref b :: As).toArray) XC free := by
  have hK : vx_Back l R p e below s args y 3 8 (PreOf R mc ms Pc) (PostOf Qc mc ms free) (vx_Post XC mc ms free) := vx_callBack cw.1 hM hp.1
  obtain ⟨⟨-, -, -, -, -, -, hcode, -, hy, hlen, hl⟩, hin, hse⟩ := cw
  obtain ⟨hx, hb, hml, ho, -⟩ := S
  obtain ⟨-, ⟨cellB, hcB, hoB, hclB⟩, hPc⟩ := hp
  intro T hT X
  rcases vx_callV X hx (C := C) (bytes := bytes) (maxL := maxL) (ret := ret) ho hl hin hse hcode hy hK (by rw [hT]; exact hcB) hoB hclB hg (hsize.trans hml.symm) (argsL := As) (rest := rest) (fun sig h => hn.trans (hlen sig h)) hstack hW (by rw [hb]; exact hdg)
    (fun vm₁ hW₁ => ⟨hf.1, hf.2, hPc (T.setVm vm₁) hT hW₁⟩) with ⟨v, vm₁, ⟨U', l2, c2, s2⟩, hW₁, X', ⟨g', mk, t, L, e1, e2, hq, h1, hL, h2, h3⟩, st⟩ | ⟨q, vm₁, ⟨U', l2, c2, s2⟩, hW₁, X', ⟨g', mk, t, L, E, ce, e1, e2, hq, hce, hcv, hcl, h1, hL, h2, h3⟩, st⟩
  · dsimp only [Pt.U, Pt.locs, Pt.cells, Pt.slots] at X' e1 e2 h1 h2 h3 st
    subst h1; subst h2; subst h3
    exact Or.inl ⟨v, (T.setVm vm₁).calling g' mk (Value.ref b :: As).toArray, t, U', L, hT, X', hL, e1, e2, hq, st⟩
  · dsimp only [Pt.U, Pt.locs, Pt.cells, Pt.slots] at X' e1 e2 h1 h2 h3 st hcl
    subst h1; subst h2; subst h3
    exact Or.inr ⟨q, (T.setVm vm₁).calling g' mk (Value.ref b :: As).toArray, t, U', L, E, ce, hT, X', hL, e1, e2, hq, hce, hcv, vx_cls hW₁ hcl, st⟩
theorem vx_runS (S : CallFix p m c cc nL s args Ts own) (hM : vx_Met l y ws rm Pc Qc XC mc ms free) (cw : CallB R s args own index y bytes maxL ret ws rm mc ms n ∧ (Cond.static y).before args s = true) (hp : PreS s H Pc As)
    (hg : g.method = m) (hn : As.length = n) (hsize : g.locals.size = nL) (hstack : g.stack = As.reverse ++ rest) (hW : 2 * g.monitorRoom + (rest.map fun v => v.category).sum ≤ 8) (hdg : decode cc g.pc = .ok (.invokestatic index, 3)) (hf : cells + mc ≤ R.cells ∧ slots + ms ≤ R.slots) :
    vx_Run p l e R s m args below meth c H locs cells slots mc ms g rest (Qc As.toArray) XC free := by
  have hK : vx_Back l R p e below s args y 3 8 (PreOf R mc ms Pc) (PostOf Qc mc ms free) (vx_Post XC mc ms free) := vx_callBack cw.1 hM hp.1
  obtain ⟨⟨-, -, -, -, -, -, hcode, hini, hy, hlen, hl⟩, hstt⟩ := cw
  obtain ⟨hx, hb, hml, ho, -⟩ := S
  intro T hT X
  rcases vx_callS X hx (bytes := bytes) (maxL := maxL) (ret := ret) ho hl hstt hini hcode hy hK hg (hsize.trans hml.symm) (argsL := As) (rest := rest) (fun sig h => hn.trans (hlen sig h)) hstack hW (by rw [hb]; exact hdg)
    (fun vm₁ hW₁ => ⟨hf.1, hf.2, hp.2 (T.setVm vm₁) hT hW₁⟩) with ⟨v, vm₁, ⟨U', l2, c2, s2⟩, hW₁, X', ⟨g', mk, t, L, e1, e2, hq, h1, hL, h2, h3⟩, st⟩ | ⟨q, vm₁, ⟨U', l2, c2, s2⟩, hW₁, X', ⟨g', mk, t, L, E, ce, e1, e2, hq, hce, hcv, hcl, h1, hL, h2, h3⟩, st⟩
  · dsimp only [Pt.U, Pt.locs, Pt.cells, Pt.slots] at X' e1 e2 h1 h2 h3 st
    subst h1; subst h2; subst h3
    exact Or.inl ⟨v, (T.setVm vm₁).calling g' mk As.toArray, t, U', L, hT, X', hL, e1, e2, hq, st⟩
  · dsimp only [Pt.U, Pt.locs, Pt.cells, Pt.slots] at X' e1 e2 h1 h2 h3 st hcl
    subst h1; subst h2; subst h3
    exact Or.inr ⟨q, (T.setVm vm₁).calling g' mk As.toArray, t, U', L, E, ce, hT, X', hL, e1, e2, hq, hce, hcv, vx_cls hW₁ hcl, st⟩
end Runs
section Rows
variable {p : Program} {l : Launch} {e : Env} {R : Room} {s : State} {m : MethodId} {args : Array Value} {below : List Frame} {meth : Method} {c : Code} {H : Heap} {locs : List Loc} {cells slots : Nat} {Q : State → Prop}
variable {mc ms : Nat} {free : Addr → Prop} {A0 A1 : Nat → Prop} {H0 : Heap} {a : Array Value} {pc : Nat} {ls : Array Slot} {st0 rest : List Value}
theorem vx_keep {st₀ t T' : State} {L : List Loc} (h0 : st₀.heap = H) (e1 : T'.heap = t.heap) (hS : va_S A0 H0 H locs) (hA : ∀ q, q < H.size → A1 q → A0 q) (hf : ∀ q, free q → A0 q) (hL : ∀ q ∈ L, free q.base) (hF : va_F A1 st₀ t) :
    H.size ≤ T'.heap.size ∧ (∀ q : Nat, q < H.size → ¬ A1 q → T'.heap[q]? = H[q]?) ∧ va_S A0 H0 T'.heap (locs ++ L) := by
  obtain ⟨hz, hk⟩ := hF
  rw [h0] at hz hk
  exact ⟨by rw [e1]; exact hz, fun q h1 h2 => by rw [e1]; exact hk q h1 h2,
    ⟨Nat.le_trans hS.1 (by rw [e1]; exact hz), fun q h1 h2 => by rw [e1, hk q (Nat.lt_of_lt_of_le h1 hS.1) (fun z => h2 (hA q (Nat.lt_of_lt_of_le h1 hS.1) z))]; exact hS.2.1 q h1 h2, fun q hq => by
      rcases List.mem_append.mp hq with h | h
      · exact hS.2.2 q h
      · exact hf _ (hL q h)⟩⟩
theorem vx_calli {S SX : Type} {post : Int32 → S → Prop} {px : SX → Prop} {B : S → State → Prop} {BX : String → SX → State → Prop} {AX : Nat → Prop} (hr : vx_Run p l e R s m args below meth c H locs cells slots mc ms (F0 m pc ls st0) rest (va_Qi post B A1 a) (vx_X px BX AX) free) (hS : va_S A0 H0 H locs) (hA : ∀ q, q < H.size → A1 q → A0 q) (hf : ∀ q, free q → A0 q) (hAX : ∀ q, q < H.size → AX q → A0 q)
    (kx : ∀ (E : String) (ce : Cell) (q9 : Addr) (u : SX) (t : State) (H1 : Heap) (locs1 : List Loc), t.heap = H1 → s.vm.Alike t.vm → px u → BX E u t → H.size ≤ H1.size → (∀ q : Nat, q < H.size → ¬ AX q → H1[q]? = H[q]?) → va_S A0 H0 H1 locs1 → H1[q9]? = some ce → ce.vm = .none → s.vm.findClass E = some ce.cls → vx_W p l e R s m args below meth c H1 locs1 (cells + mc) (slots + ms) Q (F0 m pc ls rest) q9)
    (kk : ∀ (r : Int32) (u : S) (t : State) (H1 : Heap) (locs1 : List Loc), t.heap = H1 → s.vm.Alike t.vm → post r u → B u t → H.size ≤ H1.size → (∀ q : Nat, q < H.size → ¬ A1 q → H1[q]? = H[q]?) → va_S A0 H0 H1 locs1 → W p l e R s m args below meth c H1 locs1 (cells + mc) (slots + ms) Q (F0 m (pc + 3) ls (.int r :: rest))) : W p l e R s m args below meth c H locs cells slots Q (F0 m pc ls st0) := by
  intro T hT X
  rcases hr T hT X with ⟨v, st₀, t, T', L, h0, X', hL, e1, e2, ⟨⟨r, u, hv, hp, hb⟩, hF⟩, st⟩ | ⟨q, st₀, t, T', L, E, ce, h0, X', hL, e1, e2, ⟨u, hp, hb, hF⟩, hce, hcv, hcl, st⟩
  · cases hv
    obtain ⟨k1, k2, k3⟩ := vx_keep h0 e1 hS hA hf hL hF
    obtain ⟨t2, a1, b1⟩ := kk r u t T'.heap (locs ++ L) e1.symm (by rw [← e2]; exact X'.warmed.alike) hp hb k1 k2 k3 T' rfl X'
    exact ⟨t2, st t2 a1, b1⟩
  · obtain ⟨k1, k2, k3⟩ := vx_keep h0 e1 hS hAX hf hL hF
    obtain ⟨t2, a1, b1⟩ := kx E ce q u t T'.heap (locs ++ L) e1.symm (by rw [← e2]; exact X'.warmed.alike) hp hb k1 k2 k3 (by rw [e1]; exact hce) hcv hcl T' rfl X'
    exact ⟨t2, st.trans a1, b1⟩
theorem vx_calll {S SX : Type} {post : Int64 → S → Prop} {px : SX → Prop} {B : S → State → Prop} {BX : String → SX → State → Prop} {AX : Nat → Prop} (hr : vx_Run p l e R s m args below meth c H locs cells slots mc ms (F0 m pc ls st0) rest (va_Ql post B A1 a) (vx_X px BX AX) free) (hS : va_S A0 H0 H locs) (hA : ∀ q, q < H.size → A1 q → A0 q) (hf : ∀ q, free q → A0 q) (hAX : ∀ q, q < H.size → AX q → A0 q)
    (kx : ∀ (E : String) (ce : Cell) (q9 : Addr) (u : SX) (t : State) (H1 : Heap) (locs1 : List Loc), t.heap = H1 → s.vm.Alike t.vm → px u → BX E u t → H.size ≤ H1.size → (∀ q : Nat, q < H.size → ¬ AX q → H1[q]? = H[q]?) → va_S A0 H0 H1 locs1 → H1[q9]? = some ce → ce.vm = .none → s.vm.findClass E = some ce.cls → vx_W p l e R s m args below meth c H1 locs1 (cells + mc) (slots + ms) Q (F0 m pc ls rest) q9)
    (kk : ∀ (r : Int64) (u : S) (t : State) (H1 : Heap) (locs1 : List Loc), t.heap = H1 → s.vm.Alike t.vm → post r u → B u t → H.size ≤ H1.size → (∀ q : Nat, q < H.size → ¬ A1 q → H1[q]? = H[q]?) → va_S A0 H0 H1 locs1 → W p l e R s m args below meth c H1 locs1 (cells + mc) (slots + ms) Q (F0 m (pc + 3) ls (.long r :: rest))) : W p l e R s m args below meth c H locs cells slots Q (F0 m pc ls st0) := by
  intro T hT X
  rcases hr T hT X with ⟨v, st₀, t, T', L, h0, X', hL, e1, e2, ⟨⟨r, u, hv, hp, hb⟩, hF⟩, st⟩ | ⟨q, st₀, t, T', L, E, ce, h0, X', hL, e1, e2, ⟨u, hp, hb, hF⟩, hce, hcv, hcl, st⟩
  · cases hv
    obtain ⟨k1, k2, k3⟩ := vx_keep h0 e1 hS hA hf hL hF
    obtain ⟨t2, a1, b1⟩ := kk r u t T'.heap (locs ++ L) e1.symm (by rw [← e2]; exact X'.warmed.alike) hp hb k1 k2 k3 T' rfl X'
    exact ⟨t2, st t2 a1, b1⟩
  · obtain ⟨k1, k2, k3⟩ := vx_keep h0 e1 hS hAX hf hL hF
    obtain ⟨t2, a1, b1⟩ := kx E ce q u t T'.heap (locs ++ L) e1.symm (by rw [← e2]; exact X'.warmed.alike) hp hb k1 k2 k3 (by rw [e1]; exact hce) hcv hcl T' rfl X'
    exact ⟨t2, st.trans a1, b1⟩
theorem vx_callf {S SX : Type} {post : UInt32 → S → Prop} {px : SX → Prop} {B : S → State → Prop} {BX : String → SX → State → Prop} {AX : Nat → Prop} (hr : vx_Run p l e R s m args below meth c H locs cells slots mc ms (F0 m pc ls st0) rest (va_Qf post B A1 a) (vx_X px BX AX) free) (hS : va_S A0 H0 H locs) (hA : ∀ q, q < H.size → A1 q → A0 q) (hf : ∀ q, free q → A0 q) (hAX : ∀ q, q < H.size → AX q → A0 q)
    (kx : ∀ (E : String) (ce : Cell) (q9 : Addr) (u : SX) (t : State) (H1 : Heap) (locs1 : List Loc), t.heap = H1 → s.vm.Alike t.vm → px u → BX E u t → H.size ≤ H1.size → (∀ q : Nat, q < H.size → ¬ AX q → H1[q]? = H[q]?) → va_S A0 H0 H1 locs1 → H1[q9]? = some ce → ce.vm = .none → s.vm.findClass E = some ce.cls → vx_W p l e R s m args below meth c H1 locs1 (cells + mc) (slots + ms) Q (F0 m pc ls rest) q9)
    (kk : ∀ (r : UInt32) (u : S) (t : State) (H1 : Heap) (locs1 : List Loc), t.heap = H1 → s.vm.Alike t.vm → post r u → B u t → H.size ≤ H1.size → (∀ q : Nat, q < H.size → ¬ A1 q → H1[q]? = H[q]?) → va_S A0 H0 H1 locs1 → W p l e R s m args below meth c H1 locs1 (cells + mc) (slots + ms) Q (F0 m (pc + 3) ls (.float r :: rest))) : W p l e R s m args below meth c H locs cells slots Q (F0 m pc ls st0) := by
  intro T hT X
  rcases hr T hT X with ⟨v, st₀, t, T', L, h0, X', hL, e1, e2, ⟨⟨r, u, hv, hp, hb⟩, hF⟩, st⟩ | ⟨q, st₀, t, T', L, E, ce, h0, X', hL, e1, e2, ⟨u, hp, hb, hF⟩, hce, hcv, hcl, st⟩
  · cases hv
    obtain ⟨k1, k2, k3⟩ := vx_keep h0 e1 hS hA hf hL hF
    obtain ⟨t2, a1, b1⟩ := kk r u t T'.heap (locs ++ L) e1.symm (by rw [← e2]; exact X'.warmed.alike) hp hb k1 k2 k3 T' rfl X'
    exact ⟨t2, st t2 a1, b1⟩
  · obtain ⟨k1, k2, k3⟩ := vx_keep h0 e1 hS hAX hf hL hF
    obtain ⟨t2, a1, b1⟩ := kx E ce q u t T'.heap (locs ++ L) e1.symm (by rw [← e2]; exact X'.warmed.alike) hp hb k1 k2 k3 (by rw [e1]; exact hce) hcv hcl T' rfl X'
    exact ⟨t2, st.trans a1, b1⟩
theorem vx_calld {S SX : Type} {post : UInt64 → S → Prop} {px : SX → Prop} {B : S → State → Prop} {BX : String → SX → State → Prop} {AX : Nat → Prop} (hr : vx_Run p l e R s m args below meth c H locs cells slots mc ms (F0 m pc ls st0) rest (va_Qd post B A1 a) (vx_X px BX AX) free) (hS : va_S A0 H0 H locs) (hA : ∀ q, q < H.size → A1 q → A0 q) (hf : ∀ q, free q → A0 q) (hAX : ∀ q, q < H.size → AX q → A0 q)
    (kx : ∀ (E : String) (ce : Cell) (q9 : Addr) (u : SX) (t : State) (H1 : Heap) (locs1 : List Loc), t.heap = H1 → s.vm.Alike t.vm → px u → BX E u t → H.size ≤ H1.size → (∀ q : Nat, q < H.size → ¬ AX q → H1[q]? = H[q]?) → va_S A0 H0 H1 locs1 → H1[q9]? = some ce → ce.vm = .none → s.vm.findClass E = some ce.cls → vx_W p l e R s m args below meth c H1 locs1 (cells + mc) (slots + ms) Q (F0 m pc ls rest) q9)
    (kk : ∀ (r : UInt64) (u : S) (t : State) (H1 : Heap) (locs1 : List Loc), t.heap = H1 → s.vm.Alike t.vm → post r u → B u t → H.size ≤ H1.size → (∀ q : Nat, q < H.size → ¬ A1 q → H1[q]? = H[q]?) → va_S A0 H0 H1 locs1 → W p l e R s m args below meth c H1 locs1 (cells + mc) (slots + ms) Q (F0 m (pc + 3) ls (.double r :: rest))) : W p l e R s m args below meth c H locs cells slots Q (F0 m pc ls st0) := by
  intro T hT X
  rcases hr T hT X with ⟨v, st₀, t, T', L, h0, X', hL, e1, e2, ⟨⟨r, u, hv, hp, hb⟩, hF⟩, st⟩ | ⟨q, st₀, t, T', L, E, ce, h0, X', hL, e1, e2, ⟨u, hp, hb, hF⟩, hce, hcv, hcl, st⟩
  · cases hv
    obtain ⟨k1, k2, k3⟩ := vx_keep h0 e1 hS hA hf hL hF
    obtain ⟨t2, a1, b1⟩ := kk r u t T'.heap (locs ++ L) e1.symm (by rw [← e2]; exact X'.warmed.alike) hp hb k1 k2 k3 T' rfl X'
    exact ⟨t2, st t2 a1, b1⟩
  · obtain ⟨k1, k2, k3⟩ := vx_keep h0 e1 hS hAX hf hL hF
    obtain ⟨t2, a1, b1⟩ := kx E ce q u t T'.heap (locs ++ L) e1.symm (by rw [← e2]; exact X'.warmed.alike) hp hb k1 k2 k3 (by rw [e1]; exact hce) hcv hcl T' rfl X'
    exact ⟨t2, st.trans a1, b1⟩
theorem vx_callv {S SX : Type} {post : S → Prop} {px : SX → Prop} {B : S → State → Prop} {BX : String → SX → State → Prop} {AX : Nat → Prop} (hr : vx_Run p l e R s m args below meth c H locs cells slots mc ms (F0 m pc ls st0) rest (va_Qv post B A1 a) (vx_X px BX AX) free) (hS : va_S A0 H0 H locs) (hA : ∀ q, q < H.size → A1 q → A0 q) (hf : ∀ q, free q → A0 q) (hAX : ∀ q, q < H.size → AX q → A0 q)
    (kx : ∀ (E : String) (ce : Cell) (q9 : Addr) (u : SX) (t : State) (H1 : Heap) (locs1 : List Loc), t.heap = H1 → s.vm.Alike t.vm → px u → BX E u t → H.size ≤ H1.size → (∀ q : Nat, q < H.size → ¬ AX q → H1[q]? = H[q]?) → va_S A0 H0 H1 locs1 → H1[q9]? = some ce → ce.vm = .none → s.vm.findClass E = some ce.cls → vx_W p l e R s m args below meth c H1 locs1 (cells + mc) (slots + ms) Q (F0 m pc ls rest) q9)
    (kk : ∀ (u : S) (t : State) (H1 : Heap) (locs1 : List Loc), t.heap = H1 → s.vm.Alike t.vm → post u → B u t → H.size ≤ H1.size → (∀ q : Nat, q < H.size → ¬ A1 q → H1[q]? = H[q]?) → va_S A0 H0 H1 locs1 → W p l e R s m args below meth c H1 locs1 (cells + mc) (slots + ms) Q (F0 m (pc + 3) ls (rest))) : W p l e R s m args below meth c H locs cells slots Q (F0 m pc ls st0) := by
  intro T hT X
  rcases hr T hT X with ⟨v, st₀, t, T', L, h0, X', hL, e1, e2, ⟨⟨u, hv, hp, hb⟩, hF⟩, st⟩ | ⟨q, st₀, t, T', L, E, ce, h0, X', hL, e1, e2, ⟨u, hp, hb, hF⟩, hce, hcv, hcl, st⟩
  · cases hv
    obtain ⟨k1, k2, k3⟩ := vx_keep h0 e1 hS hA hf hL hF
    obtain ⟨t2, a1, b1⟩ := kk u t T'.heap (locs ++ L) e1.symm (by rw [← e2]; exact X'.warmed.alike) hp hb k1 k2 k3 T' rfl X'
    exact ⟨t2, st t2 a1, b1⟩
  · obtain ⟨k1, k2, k3⟩ := vx_keep h0 e1 hS hAX hf hL hF
    obtain ⟨t2, a1, b1⟩ := kx E ce q u t T'.heap (locs ++ L) e1.symm (by rw [← e2]; exact X'.warmed.alike) hp hb k1 k2 k3 (by rw [e1]; exact hce) hcv hcl T' rfl X'
    exact ⟨t2, st.trans a1, b1⟩
/-- caught by the row x of this method's table; the rows ahead don't take it -/
theorem vx_catch {own name : String} {E : String} {ce : Cell} {q : Addr} (hown : s.vm.findClass own = some m.cls) (pre : List ExceptionTableEntry) (x : ExceptionTableEntry) (suf : List ExceptionTableEntry) (hsplit : c.exceptionTable.toList = pre ++ x :: suf)
    (hpass : ∀ z ∈ pre, covers z pc = false ∨ (z.catchType ≠ 0 ∧ ∃ nm : String, (Cond.classLink own z.catchType nm).before args s = true ∧ va_Nc E nm s)) (hx : covers x pc = true) (h0 : x.catchType ≠ 0)
    (hlink : (Cond.classLink own x.catchType name).before args s = true) (hcast : (Cond.castable E name).before args s = true) (hcell : H[q]? = some ce) (hv : ce.vm = .none) (hcl : s.vm.findClass E = some ce.cls)
    (kk : W p l e R s m args below meth c H locs cells slots Q (F0 m x.handlerPc ls [.ref q])) : vx_W p l e R s m args below meth c H locs cells slots Q (F0 m pc ls rest) q := by
  intro T hT X
  have hpl : e.platform.magicAccessors = ({} : Platform).magicAccessors := by rw [X.admits.platform]
  obtain ⟨c3, c4, hc3, hc4, hasg⟩ := Cond.castable_spec hcast
  cases Option.some.inj (hc3.symm.trans hcl)
  obtain ⟨c5, hc5, hcl5⟩ := Cond.classLink_spec hown hlink e.platform hpl
  cases Option.some.inj (hc4.symm.trans hc5)
  obtain ⟨vm', X', st⟩ := X.thenCaughtThrough q (g := F0 m pc ls rest) rfl (Steps.refl _) (by rw [hT]; exact hcell) (by rw [hv]; rfl) (by obtain ⟨k9, h9, -⟩ := Vm.findClass_spec hcl; exact ⟨k9, h9⟩) pre x suf hsplit
    (fun z hz => by
      rcases hpass z hz with h | ⟨hz0, nm, hl1, hn1⟩
      · exact Or.inl h
      · obtain ⟨c6, hc6, hcl6⟩ := Cond.classLink_spec hown hl1 e.platform hpl
        obtain ⟨a8, b8, h1, h2, h3⟩ := hn1
        cases Option.some.inj (h1.symm.trans hcl)
        cases Option.some.inj (h2.symm.trans hc6)
        exact Or.inr ⟨hz0, _, hcl6, h3⟩) hx (Or.inr ⟨h0, c4, hcl5, hasg⟩)
  obtain ⟨t, a1, b1⟩ := kk (T.setVm vm') hT X'
  exact ⟨t, st.trans a1, b1⟩
end Rows
section Ends
variable {p : Program} {l : Launch} {e : Env} {R : Room} {s : State} {m : MethodId} {args : Array Value} {below : List Frame} {meth : Method} {c : Code} {H : Heap} {locs : List Loc} {cells slots : Nat} {Q : State → Prop}
variable {mc ms : Nat} {free : Addr → Prop} {A0 A1 : Nat → Prop} {H0 : Heap} {a : Array Value} {ls : Array Slot} {st0 rest : List Value}
variable {Qc : Array Value → State → Outcome → State → Prop} {XC : String → State → State → Prop}
/-- what a body that may throw owes at its end -/
def vx_MQ (below : List Frame) (Qc : Array Value → State → Outcome → State → Prop) (XC : String → State → State → Prop) (a : Array Value) (s : State) (mc ms : Nat) (free : Addr → Prop) : State → Prop := fun t =>
  ∃ o, t.status = .running ∧ Ended t below o ∧ vx_Q Qc XC mc ms free a s o t
theorem vx_ret {g : JFrame} {mc ms : Nat} (k : W p l e R s m args below meth c H locs cells slots (MQ below Qc args s mc ms free) g) : W p l e R s m args below meth c H locs cells slots (vx_MQ below Qc XC args s mc ms free) g := by
  intro T hT X
  obtain ⟨t, a1, o, b1, b2, b3, b4⟩ := k T hT X
  exact ⟨t, a1, o, b1, b2, Or.inl ⟨b3, b4⟩⟩
/-- not caught here: it goes on to the caller -/
theorem vx_widen {g : JFrame} {q : Addr} {k n : Nat} (h1 : cells ≤ k) (h2 : slots ≤ n) (kk : vx_W p l e R s m args below meth c H locs k n Q g q) : vx_W p l e R s m args below meth c H locs cells slots Q g q := fun T hT X => kk T hT (stand_widen X h1 h2)
theorem vx_out {pc : Nat} {E : String} {ce : Cell} {q : Addr} {mc ms : Nat} (hout : ∀ x ∈ c.exceptionTable.toList, covers x pc = false) (hlocks : meth.locks = false) (hcell : H[q]? = some ce) (hv : ce.vm = .none) (hcl : s.vm.findClass E = some ce.cls)
    (hx : ∀ t : State, t.heap = H → s.vm.Alike t.vm → XC E s t) (hf : ∀ z ∈ locs, free z.base) (hc : cells ≤ mc) (hs : slots ≤ ms) :
    vx_W p l e R s m args below meth c H locs cells slots (vx_MQ below Qc XC args s mc ms free) (F0 m pc ls rest) q := by
  intro T hT X
  obtain ⟨st1, hrun, hend, hW, hsm⟩ := X.leaveThrown q (g := F0 m pc ls rest) rfl rfl rfl hout hlocks
  have hcell9 : (T.setFrames (.throwing q :: below)).heap[q]? = some ce := by
    show T.heap[q]? = some ce
    rw [hT]; exact hcell
  exact ⟨_, st1, .threw q, hrun, hend, Or.inr ⟨q, rfl, E, ce, locs, hx _ hT hW.alike, hcell9, hv, hcl, hW, hsm.mono hc hs, hf⟩⟩
theorem vx_frame {U : State} {k n : Nat} (h : s.sameButNew ({ U with vm := s.vm } : State) locs k n) : s.heap.size ≤ U.heap.size ∧ ∀ q : Nat, q < s.heap.size → (∀ z ∈ locs, z.base ≠ q) → U.heap[q]? = s.heap[q]? := by
  obtain ⟨-, h2, -, -, -, h6⟩ := h
  refine ⟨h2, fun q hq hz => ?_⟩
  obtain ⟨c9, e1, e2, e3, e4⟩ := h6 q _ (Array.getElem?_eq_getElem hq)
  have hs : c9.slots = (s.heap[q]).slots := Array.ext_getElem? fun i => e4 i fun hm => hz _ hm rfl
  have h9 : c9 = s.heap[q] := by
    rw [hs] at e2
    exact e2
  have e5 : U.heap[q]? = some c9 := e1
  rw [e5, h9, Array.getElem?_eq_getElem hq]
/-- the words of a throw but the four that speak of the heap -/
def vx_no (w : Cond) : Bool := decide (w ≠ .isRef (.static Bundle.tN "UNASSIGNED_STACK" Bundle.steD)) && decide (w ≠ .isRef (.static Bundle.tN "SUPPRESSED_SENTINEL" Bundle.listD)) && decide (w ≠ .laysStatic Bundle.tN "UNASSIGNED_STACK" Bundle.steD) && decide (w ≠ .laysStatic Bundle.tN "SUPPRESSED_SENTINEL" Bundle.listD)
def vx_at0 (own : String) (ic : Nat) (X : String) (names : List String) : List Cond := (Bundle.ownAtoms0 own ic X names).filter vx_no
def vx_atS (own : String) (ic : Nat) (X : String) (names : List String) : List Cond := (Bundle.ownAtoms own ic X names).filter vx_no
/-- a word that the tables alone decide, or a good one -/
def vx_ot (w : Cond) : Bool := w.onTables || goodWord w
theorem vx_ot_at {args a' : Array Value} {s U : State} {w : Cond} (hW : s.WarmedH U.vm) (hvm : s.vm = U.vm) (hg : vx_ot w = true) (h : w.before args s = true) : w.before a' U = true := by
  simp only [vx_ot, Bool.or_eq_true] at hg
  rcases hg with hg | hg
  · exact va_tabs hg hvm h
  · exact word_at hW (good_of_word hg) h
/-- a list's words: the good ones out of the method's own list, the others by premises of their own -/
theorem vx_hat {args : Array Value} {s : State} {L B : List Cond} (h1 : ∀ w ∈ L.filter goodWord, w.before args s = true) (h2 : ∀ w ∈ L.filter (fun w => !goodWord w), w ∈ B) (h3 : ∀ w ∈ B, w.before args s = true) : ∀ w ∈ L, w.before args s = true := by
  intro w hw
  by_cases g : goodWord w = true
  · exact h1 w (List.mem_filter.mpr ⟨hw, g⟩)
  · refine h3 w (h2 w (List.mem_filter.mpr ⟨hw, ?_⟩))
    show (!goodWord w) = true
    cases hgw : goodWord w
    · rfl
    · exact absurd hgw g
theorem vx_c {args : Array Value} {s : State} {w : Cond} {B : List Cond} (h : w.before args s = true) (t : ∀ w ∈ B, w.before args s = true) : ∀ w' ∈ w :: B, w'.before args s = true := fun w' h' => (List.mem_cons.mp h').elim (fun e => by rw [e]; exact h) (t w')
theorem vx_n {args : Array Value} {s : State} : ∀ w ∈ ([] : List Cond), w.before args s = true := fun _ h => nomatch h
theorem vx_own {args : Array Value} {s : State} {L : List Cond} (h1 : ∀ w ∈ L.filter vx_no, w.before args s = true)
    (hU : (Cond.isRef (.static Bundle.tN "UNASSIGNED_STACK" Bundle.steD)).before args s = true) (hN : (Cond.isRef (.static Bundle.tN "SUPPRESSED_SENTINEL" Bundle.listD)).before args s = true)
    (lU : (Cond.laysStatic Bundle.tN "UNASSIGNED_STACK" Bundle.steD).before args s = true) (lN : (Cond.laysStatic Bundle.tN "SUPPRESSED_SENTINEL" Bundle.listD).before args s = true) : ∀ w ∈ L, w.before args s = true := by
  intro w hw
  by_cases e1 : w = .isRef (.static Bundle.tN "UNASSIGNED_STACK" Bundle.steD)
  · rw [e1]; exact hU
  · by_cases e2 : w = .isRef (.static Bundle.tN "SUPPRESSED_SENTINEL" Bundle.listD)
    · rw [e2]; exact hN
    · by_cases e3 : w = .laysStatic Bundle.tN "UNASSIGNED_STACK" Bundle.steD
      · rw [e3]; exact lU
      · by_cases e4 : w = .laysStatic Bundle.tN "SUPPRESSED_SENTINEL" Bundle.listD
        · rw [e4]; exact lN
        · exact h1 w (List.mem_filter.mpr ⟨hw, by unfold vx_no; rw [decide_eq_true e1, decide_eq_true e2, decide_eq_true e3, decide_eq_true e4]; rfl⟩)
/-- where a static field lies, its class's statics cell in H -/
def vx_L (C n d : String) (A : Nat → Prop) (U : State) (H : Heap) : Prop := ∃ (c : ClassId) (k : Class) (i : Nat) (f : Field) (a : Nat) (cell : Cell), U.vm.findClass C = some c ∧ U.fieldFound? C n d = some (c, k, i, f) ∧ f.isStatic = true ∧ k.statics = some a ∧ H[a]? = some cell ∧ cell.vm.isStatics = true ∧ cell.cls = c ∧ f.slot < cell.slots.size ∧ k.staticTypes[f.slot]? = some f.type ∧ ¬ A a
theorem vx_L.moved {C n d : String} {A : Nat → Prop} {u U : State} {H : Heap} (hvm : u.vm.Alike U.vm) (h : vx_L C n d A u H) : vx_L C n d A U H := by
  obtain ⟨c, k, i, f, a, cell, h1, h2, h3, h4, h5, h6, h7, h8, h9, h10⟩ := h
  obtain ⟨k', hi', he⟩ := State.fieldFound?_setVm hvm h2
  exact ⟨c, k', i, f, a, cell, by rw [hvm.findClass]; exact h1, hi', h3, by rw [he]; exact h4, h5, h6, h7, h8, by rw [he]; exact h9, h10⟩
theorem vx_L.kept {C n d : String} {A : Nat → Prop} {U : State} {H H1 : Heap} (h : vx_L C n d A U H) (hq : ∀ a : Nat, a < H.size → ¬ A a → H1[a]? = H[a]?) : vx_L C n d A U H1 := by
  obtain ⟨c, k, i, f, a, cell, h1, h2, h3, h4, h5, h6, h7, h8, h9, h10⟩ := h
  exact ⟨c, k, i, f, a, cell, h1, h2, h3, h4, by rw [hq a (Array.getElem?_eq_some_iff.mp h5).1 h10]; exact h5, h6, h7, h8, h9, h10⟩
theorem vx_L.narrow {C n d : String} {A B : Nat → Prop} {U : State} {H : Heap} (h : vx_L C n d A U H) (hAB : ∀ q, B q → A q) : vx_L C n d B U H := by
  obtain ⟨c, k, i, f, a, cell, h1, h2, h3, h4, h5, h6, h7, h8, h9, h10⟩ := h
  exact ⟨c, k, i, f, a, cell, h1, h2, h3, h4, h5, h6, h7, h8, h9, fun z => h10 (hAB _ z)⟩
theorem vx_L.word {C n d : String} {A : Nat → Prop} {s : State} {args : Array Value} (h : vx_L C n d A s s.heap) : (Cond.laysStatic C n d).before args s = true := by
  obtain ⟨c, k, i, f, a, cell, h1, h2, h3, h4, h5, h6, h7, h8, h9, -⟩ := h
  show (Cond.laysStatic C n d).holds args s none s [] = true
  exact Cond.laysStatic_of h1 h2 h3 h4 h5 h6 h7 h8 h9
/-- .. and what it holds: null or some reference -/
def vx_Zq (C n d : String) (A : Nat → Prop) (U : State) (H : Heap) : Prop := va_Zq C n d A U H ∧ vx_L C n d A U H
theorem vx_Zq.moved {C n d : String} {A : Nat → Prop} {u U : State} {H : Heap} (hvm : u.vm.Alike U.vm) (h : vx_Zq C n d A u H) : vx_Zq C n d A U H := ⟨va_Zq.moved hvm h.1, vx_L.moved hvm h.2⟩
theorem vx_Zq.kept {C n d : String} {A : Nat → Prop} {U : State} {H H1 : Heap} (h : vx_Zq C n d A U H) (hq : ∀ a : Nat, a < H.size → ¬ A a → H1[a]? = H[a]?) : vx_Zq C n d A U H1 := ⟨va_Zq.kept h.1 hq, vx_L.kept h.2 hq⟩
theorem vx_Zq.narrow {C n d : String} {A B : Nat → Prop} {U : State} {H : Heap} (h : vx_Zq C n d A U H) (hAB : ∀ q, B q → A q) : vx_Zq C n d B U H := ⟨va_Zq.narrow h.1 hAB, vx_L.narrow h.2 hAB⟩
theorem vx_Zqof {args : Array Value} {s : State} {C n d : String} {A : Nat → Prop} (hl : (Cond.laysStatic C n d).before args s = true) (hini : (Cond.initialized C).before args s = true) (h : (Cond.isRef (.static C n d)).before args s = true) (hA : ∀ a : Nat, a < s.heap.size → ¬ A a) : vx_Zq C n d A s s.heap := by
  refine ⟨va_Zqof hl hini h hA, ?_⟩
  obtain ⟨c, k, i, f, a, cell, h1, h2, h3, h4, h5, h6, h7, h8, h9⟩ := Cond.laysStatic_spec hl
  exact ⟨c, k, i, f, a, cell, h1, h2, h3, h4, h5, h6, h7, h8, h9, hA a (Array.getElem?_eq_some_iff.mp h5).1⟩
theorem vx_isRef {C n d : String} {v : Value} {A : Nat → Prop} {s : State} {args : Array Value} (h : va_Z C n d v A s s.heap) (hv : v.isRef = true) : (Cond.isRef (.static C n d)).before args s = true := by
  obtain ⟨cf, kf, fi, f, a, cell, h1, h2, h3, h4, h5, h6, h7, -⟩ := h
  have he : (Term.static C n d).eval args s none [] s = some v := by
    simp [Term.eval, State.fieldNamed?, h1, h2, h4, h5, h6, h7]
  simp only [Cond.before, Cond.holds, Cond.value, he]
  cases v <;> simp_all [Value.isRef]
theorem vx_isRefq {C n d : String} {A : Nat → Prop} {s : State} {args : Array Value} (h : va_Zq C n d A s s.heap) : (Cond.isRef (.static C n d)).before args s = true := by
  rcases h with h | ⟨t, h⟩
  · exact vx_isRef h rfl
  · exact vx_isRef h rfl
/-- the same frame, seen from here: as if the method were called anew in this heap -/
theorem vx_rebase {T : State} (X : Stand p l e R s m args below meth c T locs cells slots) {R' : Room} (hf : R'.frames ≤ R.frames) (hl : R'.locals ≤ R.locals) (hc : cells + R'.cells ≤ R.cells) (hs : slots + R'.slots ≤ R.slots) :
    Stand p l e R' ((T.setVm s.vm).setFrames (.invoking m args :: below)) m args below meth c T [] 0 0 := by
  have htop : (T.setVm s.vm).topJava?.isSome := X.here.top
  have hF : ((T.setVm s.vm).setFrames (.invoking m args :: below)).frames = .invoking m args :: below := State.frames_setFrames _ (State.cur_lt_of_top htop)
  obtain ⟨g₀, hg0⟩ := Option.isSome_iff_exists.mp htop
  obtain ⟨r, hr⟩ := State.topJava?_eq_some.mp hg0
  have hl9 : e.platform.stackLimits (T.setVm s.vm).me = e.platform.stackLimits s.me := X.limits
  have hb9 : (T.setVm s.vm).me.stackBytes = s.me.stackBytes := X.bytes
  refine ⟨X.admits, X.cas, X.clock, hF, ?_, X.hears, X.method, X.code, X.here, X.tail, X.warmed, ?_, ?_, ?_⟩
  · have h := X.room
    have hU : ((T.setVm s.vm).setFrames (.invoking m args :: below)).localsInUse = s.localsInUse := by
      rw [State.localsInUse_invoking hF (meth := meth) (c := c) X.method X.code, State.localsInUse_invoking X.frames X.method X.code]
    simp only [State.hasRoom, Bool.and_eq_true, decide_eq_true_eq] at h ⊢
    obtain ⟨⟨⟨⟨h1, h2, h3, h4, h5, h6⟩, h7⟩, h8⟩, h9⟩ := h
    rw [X.frames, List.length_cons] at h2 h3
    have q1 := X.heapSize
    have q2 := X.used
    simp only [hF, hU, List.length_cons, State.stackLimits_setFrames, State.stackBytes_setFrames, hl9, hb9]
    refine ⟨⟨⟨⟨by omega, by omega, by omega, by omega, by omega, h6⟩, ?_⟩, ?_⟩, X.book⟩
    · show T.heap.size + R'.cells ≤ e.platform.maxCells
      omega
    · show T.slotsUsed + R'.slots ≤ e.platform.maxSlots
      omega
  · rw [State.stackLimits_setFrames]; rfl
  · rw [State.stackBytes_setFrames]; rfl
  · refine ⟨?_, Nat.le_refl _, Nat.le_refl _, ?_, ?_, fun a c9 h9 => ⟨c9, h9, rfl, rfl, fun _ _ => rfl⟩⟩
    · obtain ⟨t, ht, -⟩ := State.frames_cons hr
      show T.setVm s.vm = { ((T.setVm s.vm).setFrames (.invoking m args :: below)).setFrames (T.setVm s.vm).frames with heap := T.heap, slotsUsed := T.slotsUsed }
      rw [State.setFrames_setFrames, State.setFrames_self ht]
      rfl
    · show T.slotsUsed = T.slotsUsed + ((T.heap.toList.drop T.heap.size).map (·.slots.size)).sum
      rw [List.drop_eq_nil_of_le (Nat.le_of_eq Array.length_toList)]
      rfl
    · show ((T.heap.toList.drop T.heap.size).map (·.slots.size)).sum ≤ 0
      rw [List.drop_eq_nil_of_le (Nat.le_of_eq Array.length_toList)]
      exact Nat.le_refl _
/-- 'throw new E()': new; dup; invokespecial; athrow -/
theorem vx_throw0 {cc : ByteArray} {pc : Nat} (hexec : p.tables.exec = Jvm.exec) (hb : c.code = cc) (hl : l.stackTraces = false) {own cls : String} {names : List String} {ik ic mc ms : Nat} {A : Nat → Prop}
    (hown : s.vm.findClass own = some m.cls) (hcls : Bundle.fit cls = true) (hnames : ∀ n ∈ names, Bundle.fit n = true)
    (hk : (Cond.classLink own ik cls).before args s = true) (hini : (Cond.initialized cls).before args s = true) (hat : ∀ w ∈ vx_at0 own ic cls names, w.before args s = true)
    (hgood : ∀ w ∈ Cond.classLink own ik cls :: Cond.initialized cls :: vx_at0 own ic cls names, vx_ot w = true)
    (hU : vx_Zq Bundle.tN "UNASSIGNED_STACK" Bundle.steD A s s.heap) (hN : vx_Zq Bundle.tN "SUPPRESSED_SENTINEL" Bundle.listD A s s.heap) (hS : va_S A s.heap H locs) (hsize : ls.size = c.maxLocals)
    (d0 : decode cc pc = .ok (.new ik, 3)) (d3 : decode cc (pc + 3) = .ok (.dup, 1)) (d4 : decode cc (pc + 4) = .ok (.invokespecial ic, 3)) (d7 : decode cc (pc + 7) = .ok (.athrow, 1))
    (hout : ∀ x ∈ c.exceptionTable.toList, covers x (pc + 7) = false)
    (hRframes : names.length + 3 < R.frames) (hRlocals : (rest.map fun v => v.category).sum + (13 * (names.length + 1) + 42) ≤ R.locals) (hRcells : cells + 1 ≤ R.cells) (hRslots : slots + 6 ≤ R.slots) (hlocks : meth.locks = false)
    (hx : ∀ t : State, s.vm.Alike t.vm → H.size ≤ t.heap.size → (∀ q : Nat, q < H.size → t.heap[q]? = H[q]?) → XC cls s t)
    (hf : ∀ z ∈ locs, free z.base) (hc : cells + 1 ≤ mc) (hs : slots + 6 ≤ ms) :
    W p l e R s m args below meth c H locs cells slots (vx_MQ below Qc XC args s mc ms free) (F0 m pc ls rest) := by
  intro T hT X
  have htr : e.platform.stackTraces = false := (show e.platform.stackTraces = l.stackTraces by rw [X.admits.platform]).trans hl
  have Y := vx_rebase X (R' := { frames := R.frames, locals := R.locals, cells := 1, slots := 6 }) (Nat.le_refl _) (Nat.le_refl _) hRcells hRslots
  obtain ⟨s', hA⟩ : ∃ z, z = (T.setVm s.vm).setFrames (.invoking m args :: below) := ⟨_, rfl⟩
  rw [← hA] at Y
  have hvm : s'.vm = s.vm := by rw [hA]; rfl
  have hhp : s'.heap = H := by rw [hA]; exact hT
  have hW0 : s.WarmedH s'.vm := by rw [hvm]; exact State.WarmedH.refl s
  have hat' : ∀ w ∈ vx_at0 own ic cls names, w.before args s' = true := fun w hw => vx_ot_at hW0 hvm.symm (hgood w (List.mem_cons_of_mem _ (List.mem_cons_of_mem _ hw))) (hat w hw)
  have hk' : (Cond.classLink own ik cls).before args s' = true := vx_ot_at hW0 hvm.symm (hgood _ List.mem_cons_self) hk
  have hini' : (Cond.initialized cls).before args s' = true := vx_ot_at hW0 hvm.symm (hgood _ (List.mem_cons_of_mem _ List.mem_cons_self)) hini
  have hU' : vx_Zq Bundle.tN "UNASSIGNED_STACK" Bundle.steD A s' s'.heap := by rw [hhp]; exact vx_Zq.moved hW0.alike (hU.kept hS.2.1)
  have hN' : vx_Zq Bundle.tN "SUPPRESSED_SENTINEL" Bundle.listD A s' s'.heap := by rw [hhp]; exact vx_Zq.moved hW0.alike (hN.kept hS.2.1)
  have h : ∀ w ∈ Bundle.ownAtoms0 own ic cls names, w.before args s' = true := vx_own hat' (vx_isRefq hU'.1) (vx_isRefq hN'.1) hU'.2.word hN'.2.word
  have hown' : s'.vm.findClass own = some m.cls := by rw [hvm]; exact hown
  have hins : (Cond.instantiable cls 6).before args s' = true := h _ (by simp [Bundle.ownAtoms0])
  obtain ⟨vm₁, cX, kX, hfX, hkX, -, -, X₁, st1⟩ := Y.newCold hexec (own := own) (C := cls) (index := ik) (n := 6) hown' hk' hins hini'
    (g := F0 m pc ls rest) rfl (by rw [hb]; exact d0) (Nat.le_refl _) (Nat.le_refl _)
  generalize hT1 : (T.setVm vm₁).pushCell { cls := cX, slots := kX.instanceTypes.map defaultValue, vm := .none } = T1 at X₁ st1
  have hcat : (Value.ref T.heap.size).category = 1 := rfl
  have hcellA : T1.heap[T.heap.size]? = some (freshCell cX kX) := by rw [← hT1]; exact State.heap_pushCell_size _ _
  have d3' : decode c.code (pc + 3) = .ok (.dup, 1) := by rw [hb]; exact d3
  obtain ⟨U, hsteps, hrun, hend, hW, hsame, ce, hce, hO⟩ := X₁.ctorThrow0 hexec htr (own := own) (cls := cls) (names := names) (ic := ic) hown' hcls hnames h (fun x hx => nomatch hx) hfX hkX hcellA (by rw [hhp, hT]; exact Nat.le_refl _)
    (g := { method := m, pc := pc + 4, locals := ls, stack := .ref T.heap.size :: .ref T.heap.size :: rest, locked := none }) rfl hsize rfl rfl (rest := rest) rfl
    (by rw [hb]; exact d4) (by rw [hb]; exact d7) hout hRframes (by simp only [List.map_cons, List.sum_cons, hcat]; omega) hlocks
  obtain ⟨f1, f2⟩ := vx_frame hsame
  rw [hhp] at f1 f2
  have hWs : s.WarmedH U.vm := State.WarmedH.trans hW0 hW
  have hcl : s.vm.findClass cls = some ce.cls := by
    have h9 := hO.cls
    rw [hvm] at h9
    exact h9
  have hall : s.sameButNew ({ U with vm := s.vm } : State) locs mc ms := by
    subst hA
    obtain ⟨e1, e2⟩ := hsame
    rw [State.setFrames_setFrames] at e1
    have h2 : (T.setVm s.vm).sameButNew ({ U with vm := s.vm } : State) [] (0 + 1) (0 + 6) := ⟨e1, e2⟩
    have h3 := X.same.trans h2
    rw [List.append_nil] at h3
    exact h3.mono hc hs
  refine ⟨U, ?_, .threw T.heap.size, hrun, hend, Or.inr ⟨T.heap.size, rfl, cls, ce, locs, hx U hWs.alike f1 (fun q hq => f2 q hq (fun z hz => nomatch hz)), hce, hO.vm, hcl, hWs, hall, hf⟩⟩
  refine st1 _ ?_
  show Steps p.tables e below (T1.setTop { method := m, pc := pc + 3, locals := ls, stack := .ref T.heap.size :: rest, locked := none }) _
  jvm_step X₁.here [X₁.here.top, hexec, d3', Value.category]
  exact hsteps
/-- 'throw new E("text")': new; dup; ldc; invokespecial; athrow -/
theorem vx_throwS {cc : ByteArray} {pc : Nat} (hexec : p.tables.exec = Jvm.exec) (hb : c.code = cc) (hl : l.stackTraces = false) {own cls text : String} {names : List String} {ik is ic mc ms sa : Nat} {A : Nat → Prop}
    (hown : s.vm.findClass own = some m.cls) (hcls : Bundle.fit cls = true) (hnames : ∀ n ∈ names, Bundle.fit n = true)
    (hk : (Cond.classLink own ik cls).before args s = true) (hini : (Cond.initialized cls).before args s = true) (hstr : vk_R own is text sa s) (hat : ∀ w ∈ vx_atS own ic cls names, w.before args s = true)
    (hgood : ∀ w ∈ Cond.classLink own ik cls :: Cond.initialized cls :: vx_atS own ic cls names, vx_ot w = true)
    (hU : vx_Zq Bundle.tN "UNASSIGNED_STACK" Bundle.steD A s s.heap) (hN : vx_Zq Bundle.tN "SUPPRESSED_SENTINEL" Bundle.listD A s s.heap) (hS : va_S A s.heap H locs) (hsize : ls.size = c.maxLocals)
    (d0 : decode cc pc = .ok (.new ik, 3)) (d3 : decode cc (pc + 3) = .ok (.dup, 1)) (d4 : decode cc (pc + 4) = .ok (.ldc is, 2)) (d6 : decode cc (pc + 6) = .ok (.invokespecial ic, 3)) (d9 : decode cc (pc + 9) = .ok (.athrow, 1))
    (hout : ∀ x ∈ c.exceptionTable.toList, covers x (pc + 9) = false)
    (hRframes : names.length + 3 < R.frames) (hRlocals : (rest.map fun v => v.category).sum + (13 * (names.length + 1) + 43) ≤ R.locals) (hRcells : cells + 1 ≤ R.cells) (hRslots : slots + 6 ≤ R.slots) (hlocks : meth.locks = false)
    (hx : ∀ t : State, s.vm.Alike t.vm → H.size ≤ t.heap.size → (∀ q : Nat, q < H.size → t.heap[q]? = H[q]?) → XC cls s t)
    (hf : ∀ z ∈ locs, free z.base) (hc : cells + 1 ≤ mc) (hs : slots + 6 ≤ ms) :
    W p l e R s m args below meth c H locs cells slots (vx_MQ below Qc XC args s mc ms free) (F0 m pc ls rest) := by
  intro T hT X
  have htr : e.platform.stackTraces = false := (show e.platform.stackTraces = l.stackTraces by rw [X.admits.platform]).trans hl
  have Y := vx_rebase X (R' := { frames := R.frames, locals := R.locals, cells := 1, slots := 6 }) (Nat.le_refl _) (Nat.le_refl _) hRcells hRslots
  obtain ⟨s', hA⟩ : ∃ z, z = (T.setVm s.vm).setFrames (.invoking m args :: below) := ⟨_, rfl⟩
  rw [← hA] at Y
  have hvm : s'.vm = s.vm := by rw [hA]; rfl
  have hhp : s'.heap = H := by rw [hA]; exact hT
  have hW0 : s.WarmedH s'.vm := by rw [hvm]; exact State.WarmedH.refl s
  have hat' : ∀ w ∈ vx_atS own ic cls names, w.before args s' = true := fun w hw => vx_ot_at hW0 hvm.symm (hgood w (List.mem_cons_of_mem _ (List.mem_cons_of_mem _ hw))) (hat w hw)
  have hk' : (Cond.classLink own ik cls).before args s' = true := vx_ot_at hW0 hvm.symm (hgood _ List.mem_cons_self) hk
  have hini' : (Cond.initialized cls).before args s' = true := vx_ot_at hW0 hvm.symm (hgood _ (List.mem_cons_of_mem _ List.mem_cons_self)) hini
  have hU' : vx_Zq Bundle.tN "UNASSIGNED_STACK" Bundle.steD A s' s'.heap := by rw [hhp]; exact vx_Zq.moved hW0.alike (hU.kept hS.2.1)
  have hN' : vx_Zq Bundle.tN "SUPPRESSED_SENTINEL" Bundle.listD A s' s'.heap := by rw [hhp]; exact vx_Zq.moved hW0.alike (hN.kept hS.2.1)
  have h : ∀ w ∈ Bundle.ownAtoms own ic cls names, w.before args s' = true := vx_own hat' (vx_isRefq hU'.1) (vx_isRefq hN'.1) hU'.2.word hN'.2.word
  have hown' : s'.vm.findClass own = some m.cls := by rw [hvm]; exact hown
  have hins : (Cond.instantiable cls 6).before args s' = true := h _ (by simp [Bundle.ownAtoms])
  obtain ⟨vm₁, cX, kX, hfX, hkX, -, -, X₁, st1⟩ := Y.newCold hexec (own := own) (C := cls) (index := ik) (n := 6) hown' hk' hins hini'
    (g := F0 m pc ls rest) rfl (by rw [hb]; exact d0) (Nat.le_refl _) (Nat.le_refl _)
  generalize hT1 : (T.setVm vm₁).pushCell { cls := cX, slots := kX.instanceTypes.map defaultValue, vm := .none } = T1 at X₁ st1
  have hcat : (Value.ref T.heap.size).category = 1 := rfl
  have hcellA : T1.heap[T.heap.size]? = some (freshCell cX kX) := by rw [← hT1]; exact State.heap_pushCell_size _ _
  have d3' : decode c.code (pc + 3) = .ok (.dup, 1) := by rw [hb]; exact d3
  have d4' : decode c.code (pc + 4) = .ok (.ldc is, 2) := by rw [hb]; exact d4
  have hstr' : vk_R own is text sa s' := vk_R.warm hW0 hstr
  obtain ⟨U, hsteps, hrun, hend, hW, hsame, ce, hce, hO⟩ := X₁.ctorThrowS hexec htr (own := own) (cls := cls) (names := names) (ic := ic) hown' hcls hnames h (fun x hx => nomatch hx) hfX hkX hcellA (by rw [hhp, hT]; exact Nat.le_refl _) (msg := .ref sa) rfl
    (g := { method := m, pc := pc + 6, locals := ls, stack := .ref sa :: .ref T.heap.size :: .ref T.heap.size :: rest, locked := none }) rfl hsize rfl rfl (rest := rest) rfl
    (by rw [hb]; exact d6) (by rw [hb]; exact d9) hout hRframes (by simp only [List.map_cons, List.sum_cons, hcat]; omega) hlocks
  obtain ⟨f1, f2⟩ := vx_frame hsame
  rw [hhp] at f1 f2
  have hWs : s.WarmedH U.vm := State.WarmedH.trans hW0 hW
  have hcl : s.vm.findClass cls = some ce.cls := by
    have h9 := hO.cls
    rw [hvm] at h9
    exact h9
  have hall : s.sameButNew ({ U with vm := s.vm } : State) locs mc ms := by
    subst hA
    obtain ⟨e1, e2⟩ := hsame
    rw [State.setFrames_setFrames] at e1
    have h2 : (T.setVm s.vm).sameButNew ({ U with vm := s.vm } : State) [] (0 + 1) (0 + 6) := ⟨e1, e2⟩
    have h3 := X.same.trans h2
    rw [List.append_nil] at h3
    exact h3.mono hc hs
  refine ⟨U, ?_, .threw T.heap.size, hrun, hend, Or.inr ⟨T.heap.size, rfl, cls, ce, locs, hx U hWs.alike f1 (fun q hq => f2 q hq (fun z hz => nomatch hz)), hce, hO.vm, hcl, hWs, hall, hf⟩⟩
  refine st1 _ ?_
  show Steps p.tables e below (T1.setTop { method := m, pc := pc + 3, locals := ls, stack := .ref T.heap.size :: rest, locked := none }) _
  jvm_step X₁.here [X₁.here.top, hexec, d3', Value.category]
  exact X₁.ldcString hexec (own := own) (text := text) (index := is) (a := sa) hown' hstr'.1 hstr'.2
    (g := { method := m, pc := pc + 4, locals := ls, stack := .ref T.heap.size :: .ref T.heap.size :: rest, locked := none }) rfl d4' _ hsteps
/-- 'throw new E("text")', the text by a wide index -/
theorem vx_throwSW {cc : ByteArray} {pc : Nat} (hexec : p.tables.exec = Jvm.exec) (hb : c.code = cc) (hl : l.stackTraces = false) {own cls text : String} {names : List String} {ik is ic mc ms sa : Nat} {A : Nat → Prop}
    (hown : s.vm.findClass own = some m.cls) (hcls : Bundle.fit cls = true) (hnames : ∀ n ∈ names, Bundle.fit n = true)
    (hk : (Cond.classLink own ik cls).before args s = true) (hini : (Cond.initialized cls).before args s = true) (hstr : vk_R own is text sa s) (hat : ∀ w ∈ vx_atS own ic cls names, w.before args s = true)
    (hgood : ∀ w ∈ Cond.classLink own ik cls :: Cond.initialized cls :: vx_atS own ic cls names, vx_ot w = true)
    (hU : vx_Zq Bundle.tN "UNASSIGNED_STACK" Bundle.steD A s s.heap) (hN : vx_Zq Bundle.tN "SUPPRESSED_SENTINEL" Bundle.listD A s s.heap) (hS : va_S A s.heap H locs) (hsize : ls.size = c.maxLocals)
    (d0 : decode cc pc = .ok (.new ik, 3)) (d3 : decode cc (pc + 3) = .ok (.dup, 1)) (d4 : decode cc (pc + 4) = .ok (.ldc_w is, 3)) (d7 : decode cc (pc + 7) = .ok (.invokespecial ic, 3)) (d10 : decode cc (pc + 10) = .ok (.athrow, 1))
    (hout : ∀ x ∈ c.exceptionTable.toList, covers x (pc + 10) = false)
    (hRframes : names.length + 3 < R.frames) (hRlocals : (rest.map fun v => v.category).sum + (13 * (names.length + 1) + 43) ≤ R.locals) (hRcells : cells + 1 ≤ R.cells) (hRslots : slots + 6 ≤ R.slots) (hlocks : meth.locks = false)
    (hx : ∀ t : State, s.vm.Alike t.vm → H.size ≤ t.heap.size → (∀ q : Nat, q < H.size → t.heap[q]? = H[q]?) → XC cls s t)
    (hf : ∀ z ∈ locs, free z.base) (hc : cells + 1 ≤ mc) (hs : slots + 6 ≤ ms) :
    W p l e R s m args below meth c H locs cells slots (vx_MQ below Qc XC args s mc ms free) (F0 m pc ls rest) := by
  intro T hT X
  have htr : e.platform.stackTraces = false := (show e.platform.stackTraces = l.stackTraces by rw [X.admits.platform]).trans hl
  have Y := vx_rebase X (R' := { frames := R.frames, locals := R.locals, cells := 1, slots := 6 }) (Nat.le_refl _) (Nat.le_refl _) hRcells hRslots
  obtain ⟨s', hA⟩ : ∃ z, z = (T.setVm s.vm).setFrames (.invoking m args :: below) := ⟨_, rfl⟩
  rw [← hA] at Y
  have hvm : s'.vm = s.vm := by rw [hA]; rfl
  have hhp : s'.heap = H := by rw [hA]; exact hT
  have hW0 : s.WarmedH s'.vm := by rw [hvm]; exact State.WarmedH.refl s
  have hat' : ∀ w ∈ vx_atS own ic cls names, w.before args s' = true := fun w hw => vx_ot_at hW0 hvm.symm (hgood w (List.mem_cons_of_mem _ (List.mem_cons_of_mem _ hw))) (hat w hw)
  have hk' : (Cond.classLink own ik cls).before args s' = true := vx_ot_at hW0 hvm.symm (hgood _ List.mem_cons_self) hk
  have hini' : (Cond.initialized cls).before args s' = true := vx_ot_at hW0 hvm.symm (hgood _ (List.mem_cons_of_mem _ List.mem_cons_self)) hini
  have hU' : vx_Zq Bundle.tN "UNASSIGNED_STACK" Bundle.steD A s' s'.heap := by rw [hhp]; exact vx_Zq.moved hW0.alike (hU.kept hS.2.1)
  have hN' : vx_Zq Bundle.tN "SUPPRESSED_SENTINEL" Bundle.listD A s' s'.heap := by rw [hhp]; exact vx_Zq.moved hW0.alike (hN.kept hS.2.1)
  have h : ∀ w ∈ Bundle.ownAtoms own ic cls names, w.before args s' = true := vx_own hat' (vx_isRefq hU'.1) (vx_isRefq hN'.1) hU'.2.word hN'.2.word
  have hown' : s'.vm.findClass own = some m.cls := by rw [hvm]; exact hown
  have hins : (Cond.instantiable cls 6).before args s' = true := h _ (by simp [Bundle.ownAtoms])
  obtain ⟨vm₁, cX, kX, hfX, hkX, -, -, X₁, st1⟩ := Y.newCold hexec (own := own) (C := cls) (index := ik) (n := 6) hown' hk' hins hini'
    (g := F0 m pc ls rest) rfl (by rw [hb]; exact d0) (Nat.le_refl _) (Nat.le_refl _)
  generalize hT1 : (T.setVm vm₁).pushCell { cls := cX, slots := kX.instanceTypes.map defaultValue, vm := .none } = T1 at X₁ st1
  have hcat : (Value.ref T.heap.size).category = 1 := rfl
  have hcellA : T1.heap[T.heap.size]? = some (freshCell cX kX) := by rw [← hT1]; exact State.heap_pushCell_size _ _
  have d3' : decode c.code (pc + 3) = .ok (.dup, 1) := by rw [hb]; exact d3
  have d4' : decode c.code (pc + 4) = .ok (.ldc_w is, 3) := by rw [hb]; exact d4
  have hstr' : vk_R own is text sa s' := vk_R.warm hW0 hstr
  obtain ⟨U, hsteps, hrun, hend, hW, hsame, ce, hce, hO⟩ := X₁.ctorThrowS hexec htr (own := own) (cls := cls) (names := names) (ic := ic) hown' hcls hnames h (fun x hx => nomatch hx) hfX hkX hcellA (by rw [hhp, hT]; exact Nat.le_refl _) (msg := .ref sa) rfl
    (g := { method := m, pc := pc + 7, locals := ls, stack := .ref sa :: .ref T.heap.size :: .ref T.heap.size :: rest, locked := none }) rfl hsize rfl rfl (rest := rest) rfl
    (by rw [hb]; exact d7) (by rw [hb]; exact d10) hout hRframes (by simp only [List.map_cons, List.sum_cons, hcat]; omega) hlocks
  obtain ⟨f1, f2⟩ := vx_frame hsame
  rw [hhp] at f1 f2
  have hWs : s.WarmedH U.vm := State.WarmedH.trans hW0 hW
  have hcl : s.vm.findClass cls = some ce.cls := by
    have h9 := hO.cls
    rw [hvm] at h9
    exact h9
  have hall : s.sameButNew ({ U with vm := s.vm } : State) locs mc ms := by
    subst hA
    obtain ⟨e1, e2⟩ := hsame
    rw [State.setFrames_setFrames] at e1
    have h2 : (T.setVm s.vm).sameButNew ({ U with vm := s.vm } : State) [] (0 + 1) (0 + 6) := ⟨e1, e2⟩
    have h3 := X.same.trans h2
    rw [List.append_nil] at h3
    exact h3.mono hc hs
  refine ⟨U, ?_, .threw T.heap.size, hrun, hend, Or.inr ⟨T.heap.size, rfl, cls, ce, locs, hx U hWs.alike f1 (fun q hq => f2 q hq (fun z hz => nomatch hz)), hce, hO.vm, hcl, hWs, hall, hf⟩⟩
  refine st1 _ ?_
  show Steps p.tables e below (T1.setTop { method := m, pc := pc + 3, locals := ls, stack := .ref T.heap.size :: rest, locked := none }) _
  jvm_step X₁.here [X₁.here.top, hexec, d3', Value.category]
  exact X₁.ldcStringW hexec (own := own) (text := text) (index := is) (a := sa) hown' hstr'.1 hstr'.2
    (g := { method := m, pc := pc + 4, locals := ls, stack := .ref T.heap.size :: .ref T.heap.size :: rest, locked := none }) rfl d4' _ hsteps
end Ends
section Bodies
variable {l : Launch}
theorem vx_ofW {y : MethodName} {ws ws' : List Cond} {rm : Room} {Pc : Array Value → State → Prop} {Qc : Array Value → State → Outcome → State → Prop} {XC : String → State → State → Prop} {mc ms : Nat} {free : Addr → Prop} {cc : ByteArray} {maxL : Nat} {ret : Option FieldType}
    (hy : plainName y.cls = true) (hw : ws = Cond.code y cc maxL ret :: ws')
    (body : ∀ p e s m args below meth c s₁, BodyLoose p l y (headSpec ws rm) cc maxL ret e s m args below meth c s₁ → c.maxLocals = maxL → (∀ x ∈ c.exceptionTable.toList, False) → Pc args s →
      W p l e (headSpec ws rm).room s m args below meth c s.heap [] 0 0 (vx_MQ below Qc XC args s mc ms free) (entryFrame m args maxL)) : vx_Met l y ws rm Pc Qc XC mc ms free := by
  refine MetFree.of_bodyS (code := cc) (maxLocals := maxL) (ret := ret) hy ?_ ?_
  · intro args s m h hn
    obtain ⟨meth, c, h1, h2, h3, h4, h5, h6, -, -⟩ := Cond.code_spec hn (atoms_spec (ws := ws) h _ (by rw [hw]; exact List.mem_cons_self))
    exact ⟨meth, c, h1, h2, h3, h4, h5, h6⟩
  · intro p e s m args below meth c s₁ B hml hP _
    have hh0 : s₁.heap = s.heap := by rw [B.state]; rfl
    have ht : ∀ x ∈ c.exceptionTable.toList, False := by
      obtain ⟨meth9, c9, h1, h2, -, -, -, -, h7, -⟩ := Cond.code_spec B.named (atoms_spec (ws := ws) B.pre _ (by rw [hw]; exact List.mem_cons_self))
      cases Option.some.inj (h1.symm.trans B.method)
      cases Option.some.inj (h2.symm.trans (Stand.of_body B).code)
      intro x hx
      rw [Array.isEmpty_iff.mp h7] at hx
      cases hx
    obtain ⟨t, a1, o, b1, b2, b3⟩ := body p e s m args below meth c s₁ B hml ht hP s₁ hh0 (Stand.of_body B)
    exact ⟨t, o, a1, b1, b2, b3⟩
/-- the table of a body with handlers -/
theorem vx_table {p : Program} {x y : MethodName} {S : Spec} {cc bytes : ByteArray} {maxL maxL' : Nat} {ret ret' : Option FieldType} {e : Env} {s s₁ : State} {m : MethodId} {args : Array Value} {below : List Frame} {meth : Method} {c : Code} {hh : List (Nat × Nat × Nat × Nat)}
    (B : BodyLoose p l y S cc maxL ret e s m args below meth c s₁) (h : (Cond.codeWith y bytes maxL' ret' hh).before args s = true) : c.exceptionTable.toList = tableOf hh := by
  obtain ⟨m9, meth9, c9, hn9, h1, h2, -, -, h6, -⟩ := Cond.codeWith_spec h
  cases Option.some.inj (hn9.symm.trans B.named)
  cases Option.some.inj (h1.symm.trans B.method)
  cases Option.some.inj (h2.symm.trans (Stand.of_body B).code)
  rw [← h6, table_eq]
end Bodies
end VXA
/-! ===== END ===== -/
/-! ===== BEGIN a static call of a method with an exception table ===== -/
section VXS
variable {p : Program} {l : Launch} {e : Env} {R : Room} {s : State} {m : MethodId} {args : Array Value} {below : List Frame} {meth : Method} {c : Code} {T : State} {H : Heap} {locs : List Loc} {cells slots : Nat}
abbrev vx_CSW (R : Room) (s : State) (args : Array Value) (own : String) (index : Nat) (y : MethodName) (bytes : ByteArray) (maxL : Nat) (ret : Option FieldType) (hh : List (Nat × Nat × Nat × Nat)) (ws : List Cond) (rm : Room) (mc ms n : Nat) : Prop :=
  (rm.cells = mc ∧ rm.slots = ms ∧ rm.frames + 1 ≤ R.frames ∧ 8 + (maxL + 11) + rm.locals ≤ R.locals ∧ (∀ w ∈ ws, ∀ (a' : Array Value) (U : State), s.WarmedH U.vm → w.before a' U = true) ∧ Cond.codeWith y bytes maxL ret hh ∈ ws) ∧
  (Cond.codeWith y bytes maxL ret hh).before args s = true ∧ (Cond.initialized y.cls).before args s = true ∧ (y.cls ≠ "java/lang/invoke/MethodHandle" ∧ y.cls ≠ "java/lang/invoke/VarHandle") ∧
  (∀ sig, parseMethodDescriptor y.desc = some sig → n = sig.parameters.length) ∧ (Cond.methodLink own index y).before args s = true ∧ (Cond.static y).before args s = true
theorem vx_cwSW {own : String} {index maxL mc ms : Nat} {y : MethodName} {bytes : ByteArray} {ret : Option FieldType} {hh : List (Nat × Nat × Nat × Nat)} {Ts ws ws' : List Cond} {rm : Room} (n : Nat) (ht : ∀ w ∈ Ts, w.before args s = true) (hT : GoodIn Ts (va_wsS own index y ws)) (hw : ws = Cond.codeWith y bytes maxL ret hh :: ws') (hrc : rm.cells = mc) (hrs : rm.slots = ms)
    (hd : y.cls ≠ "java/lang/invoke/MethodHandle" ∧ y.cls ≠ "java/lang/invoke/VarHandle" ∧ (parseMethodDescriptor y.desc).map (fun d => d.parameters.length) = some n) (hR : rm.frames + 1 ≤ R.frames ∧ 8 + (maxL + 11) + rm.locals ≤ R.locals) :
    vx_CSW R s args own index y bytes maxL ret hh ws rm mc ms n := by
  have ok : ∀ w ∈ va_wsS own index y ws, w.before args s = true := fun w h => ht w (hT w h).1
  have hG : GoodIn Ts ws := fun w h => hT w (by unfold va_wsS; exact List.mem_append_right _ h)
  have hc : Cond.codeWith y bytes maxL ret hh ∈ ws := by rw [hw]; exact List.mem_cons_self
  refine ⟨⟨hrc, hrs, hR.1, hR.2, pay_in ht hG, hc⟩, ht _ (hG _ hc).1, ok _ (by simp [va_wsS]), ⟨hd.1, hd.2.1⟩, fun sig h => ?_, ok _ (by simp [va_wsS]), ok _ (by simp [va_wsS])⟩
  have h2 := hd.2.2
  rw [h] at h2
  exact (Option.some.inj h2).symm
theorem vx_callSW (X : Stand p l e R s m args below meth c T locs cells slots) (hexec : p.tables.exec = Jvm.exec) {own : String} {index : Nat} {y : MethodName} {bytes : ByteArray} {maxL : Nat} {ret : Option FieldType} {hh : List (Nat × Nat × Nat × Nat)}
    (hown : s.vm.findClass own = some m.cls) (hlink : (Cond.methodLink own index y).before args s = true) (hstat : (Cond.static y).before args s = true) (hinit : (Cond.initialized y.cls).before args s = true)
    (hcode : (Cond.codeWith y bytes maxL ret hh).before args s = true) (hy : y.cls ≠ "java/lang/invoke/MethodHandle" ∧ y.cls ≠ "java/lang/invoke/VarHandle")
    {W9 : Nat} {Pre : Pt → Array Value → Prop} {Post : Pt → Array Value → Option Value → Pt → Prop} (hK : Back l R p e below s args y 3 W9 Pre Post)
    {g : JFrame} (hg : g.method = m) (hsize : g.locals.size = c.maxLocals) {argsL rest : List Value} (hlen : ∀ sig, parseMethodDescriptor y.desc = some sig → argsL.length = sig.parameters.length)
    (hstack : g.stack = argsL.reverse ++ rest) (hW : 2 * g.monitorRoom + (rest.map fun v => v.category).sum ≤ W9) (hdg : decode c.code g.pc = .ok (.invokestatic index, 3))
    (hpre : ∀ vm₁, s.WarmedH vm₁ → Pre ⟨T.setVm vm₁, locs, cells, slots⟩ argsL.toArray) :
    ∃ (v : Option Value) (vm₁ : Vm) (B : Pt), s.WarmedH vm₁ ∧ Stand p l e R s m args below meth c B.U B.locs B.cells B.slots ∧ Post ⟨T.setVm vm₁, locs, cells, slots⟩ argsL.toArray v B ∧
      ∀ target, Steps p.tables e below (B.U.setTop { g with pc := g.pc + 3, stack := v.toList ++ rest }) target → Steps p.tables e below (T.setTop g) target := by
  obtain ⟨mk, methM, cM, hnamed, hmethM, -, -, -, -, -, -, hsigM⟩ := Cond.codeWith_spec hcode
  have hstatic : methM.isStatic = true := Cond.static_spec hnamed hmethM hstat
  obtain ⟨kP, hkP, -⟩ := className_of_methodNamed hnamed
  have hinitP : kP.init = .initialized := Cond.initialized_spec (findClass_of_methodNamed hnamed) hkP hinit
  obtain ⟨vm₁, X₁, hstep₁⟩ := X.invokestatic hexec hown hlink hnamed hmethM hstatic hkP hinitP hy (g := g) hg (argsL := argsL) (rest := rest) (hlen _ hsigM) hstack hdg
  obtain ⟨v, B, X', hpost, hsteps⟩ := hK m meth c ⟨T.setVm vm₁, locs, cells, slots⟩ { g with stack := rest } (.invokestatic index) mk argsL.toArray X₁ hg hsize hdg hW (X₁.named hnamed) (hpre vm₁ X₁.warmed)
  exact ⟨v, vm₁, B, X₁.warmed, X', hpost, fun target h => hstep₁ _ fun acts => by rw [doInvoke_state]; exact hsteps.trans h⟩
theorem vx_runSW {y : MethodName} {bytes cc : ByteArray} {maxL nL mc ms n index : Nat} {ret : Option FieldType} {hh : List (Nat × Nat × Nat × Nat)} {ws : List Cond} {rm : Room} {Pc : Array Value → State → Prop} {Qc : Array Value → State → Outcome → State → Prop} {free : Addr → Prop} {Ts : List Cond} {own : String} {As rest : List Value} {g : JFrame}
    (S : CallFix p m c cc nL s args Ts own) (hM : Met l y ws rm Pc Qc mc ms free) (cw : vx_CSW R s args own index y bytes maxL ret hh ws rm mc ms n) (hp : PreS s H Pc As)
    (hg : g.method = m) (hn : As.length = n) (hsize : g.locals.size = nL) (hstack : g.stack = As.reverse ++ rest) (hW : 2 * g.monitorRoom + (rest.map fun v => v.category).sum ≤ 8) (hdg : decode cc g.pc = .ok (.invokestatic index, 3)) (hf : cells + mc ≤ R.cells ∧ slots + ms ≤ R.slots) :
    va_Run p l e R s m args below meth c H locs cells slots mc ms g rest (Qc As.toArray) (free) := by
  obtain ⟨⟨hrc, hrs, hfr, hlo, hws, hcw⟩, hcode, hini, hy, hlen, hl, hstt⟩ := cw
  have hK : Back l R p e below s args y 3 8 (PreOf R mc ms Pc) (PostOf Qc mc ms free) := va_backW (hh := hh) (bytes := bytes) (maxL := maxL) (ret := ret) hM hp.1 hrc hrs hfr hlo hws hcw (fun a' U hW => word_at hW (Or.inl (by first | rfl | simp [Cond.onTables, Cond.keeps, Cond.steady])) hini)
  obtain ⟨hx, hb, hml, ho, -⟩ := S
  intro T hT X
  obtain ⟨v, vm₁, ⟨U', l2, c2, s2⟩, hW₁, X', ⟨g', mk, t, L, e1, e2, hq, h1, hL, h2, h3⟩, st⟩ := vx_callSW X hx (hh := hh) (bytes := bytes) (maxL := maxL) (ret := ret) ho hl hstt hini hcode hy hK hg (hsize.trans hml.symm) (argsL := As) (rest := rest) (fun sig h => hn.trans (hlen sig h)) hstack hW (by rw [hb]; exact hdg)
    (fun vm₁ hW₁ => ⟨hf.1, hf.2, hp.2 (T.setVm vm₁) hT hW₁⟩)
  dsimp only [Pt.U, Pt.locs, Pt.cells, Pt.slots] at X' e1 e2 h1 h2 h3 st
  subst h1; subst h2; subst h3
  exact ⟨v, (T.setVm vm₁).calling g' mk As.toArray, t, U', L, hT, X', hL, e1, e2, hq, st⟩
/-- not caught here, past rows that name other classes: it goes on to the caller -/
theorem vx_outP {p : Program} {l : Launch} {e : Env} {R : Room} {s : State} {m : MethodId} {args : Array Value} {below : List Frame} {meth : Method} {c : Code} {H : Heap} {locs : List Loc} {cells slots : Nat} {free : Addr → Prop} {ls : Array Slot} {rest : List Value} {Qc : Array Value → State → Outcome → State → Prop} {XC : String → State → State → Prop}
    {pc : Nat} {own E : String} {ce : Cell} {q : Addr} {mc ms : Nat} (hown : s.vm.findClass own = some m.cls) (hlocks : meth.locks = false)
    (hpass : ∀ z ∈ c.exceptionTable.toList, covers z pc = false ∨ (z.catchType ≠ 0 ∧ ∃ nm : String, (Cond.classLink own z.catchType nm).before args s = true ∧ va_Nc E nm s)) (hcell : H[q]? = some ce) (hv : ce.vm = .none) (hcl : s.vm.findClass E = some ce.cls)
    (hx : ∀ t : State, t.heap = H → s.vm.Alike t.vm → XC E s t) (hf : ∀ z ∈ locs, free z.base) (hc : cells ≤ mc) (hs : slots ≤ ms) :
    vx_W p l e R s m args below meth c H locs cells slots (vx_MQ below Qc XC args s mc ms free) (F0 m pc ls rest) q := by
  intro T hT X
  have hpl : e.platform.magicAccessors = ({} : Platform).magicAccessors := by rw [X.admits.platform]
  obtain ⟨vm', hW', X', st⟩ := X.outThrough hlocks q (g := F0 m pc ls rest) rfl rfl rfl (cell := ce) (by rw [hT]; exact hcell) (by rw [hv]; rfl)
    (by obtain ⟨k9, h9, -⟩ := Vm.findClass_spec hcl; exact ⟨k9, h9⟩) (fun z hz => by
      rcases hpass z hz with h | ⟨hz0, nm, hl1, hn1⟩
      · exact Or.inl h
      · obtain ⟨c6, hc6, hcl6⟩ := Cond.classLink_spec hown hl1 e.platform hpl
        obtain ⟨a8, b8, h1, h2, h3⟩ := hn1
        cases Option.some.inj (h1.symm.trans hcl)
        cases Option.some.inj (h2.symm.trans hc6)
        exact Or.inr ⟨hz0, _, hcl6, h3⟩)
  obtain ⟨g₀, hfr⟩ := X'.frames_eq
  have hcell9 : ((T.setVm vm').setFrames (.throwing q :: below)).heap[q]? = some ce := by
    show T.heap[q]? = some ce
    rw [hT]; exact hcell
  have hend : Ended ((T.setVm vm').setFrames (.throwing q :: below)) below (.threw q) := State.frames_setFrames _ (State.cur_lt_of_frames hfr)
  refine ⟨(T.setVm vm').setFrames (.throwing q :: below), ?_, .threw q, X'.here.running, hend, Or.inr ⟨q, rfl, E, ce, locs, hx _ hT (X'.ends _).1.alike, hcell9, hv, hcl, (X'.ends _).1, (X'.ends _).2.mono hc hs, hf⟩⟩
  rw [X.pushThrowing_eq]
  exact st
/-- a thing of a world lies in the heap -/
theorem vx_lt {D : va_G} {cl : List vw_C} {ws : va_W} {H1 : Heap} (h : va_P D cl ws H1) {k : Nat} {q : Nat × va_E} (hk : ws[k]? = some q) : q.1 < H1.size := (h k q hk).lt
end VXS
/-! ===== END ===== -/
/-! ===== BEGIN methods with a table of their own: called by a name, returning or throwing ===== -/
section VXH
/-! vx_backW, vx_callVX, vx_callSX, vx_callVW, vx_runVW, vx_runVX, vx_runSX, vx_ofWH follow the same proofs as their sisters above (Free/Laws.lean, Shelf42/LK1.lean); vx_outP calls Shelf42/NT130.lean (outThrough). -/
section
variable {l : Launch} {R : Room} {p : Program} {e : Env} {below : List Frame} {s : State} {sargs : Array Value} {y : MethodName} {len W9 : Nat}
theorem vx_backW {ws : List Cond} {rm : Room} {Pc : Array Value → State → Prop} {Qc : Array Value → State → Outcome → State → Prop} {XC : String → State → State → Prop} {mc ms : Nat} {free : Addr → Prop} {bytes : ByteArray} {maxL : Nat} {ret : Option FieldType} {hh : List (Nat × Nat × Nat × Nat)}
    (hM : vx_Met l y ws rm Pc Qc XC mc ms free) (hblind : FrameBlind Pc) (hrc : rm.cells = mc) (hrs : rm.slots = ms)
    (hframes : rm.frames + 1 ≤ R.frames) (hlocals : W9 + (maxL + 11) + rm.locals ≤ R.locals)
    (hws : ∀ w ∈ ws, ∀ a' U, s.WarmedH U.vm → w.before a' U = true) (hcode : Cond.codeWith y bytes maxL ret hh ∈ ws) (hinit : ∀ a' U, s.WarmedH U.vm → (Cond.initialized y.cls).before a' U = true) :
    vx_Back l R p e below s sargs y len W9 (PreOf R mc ms Pc) (PostOf Qc mc ms free) (vx_Post XC mc ms free) := by
  intro m meth c A g ig mk a X hg hsize hdg hW hn hp
  have h1 : (headSpec ws rm).pre.before a A.U = true := atoms_intro fun w hw => hws w hw _ _ X.warmed
  have h2 : (Cond.codeWith y bytes maxL ret hh).before a A.U = true := hws _ hcode _ _ X.warmed
  have h3 : (Cond.initialized y.cls).before a A.U = true := hinit _ _ X.warmed
  have h4 : A.cells + (headSpec ws rm).room.cells ≤ R.cells := by rw [show (headSpec ws rm).room.cells = mc from hrc]; exact hp.1
  have h5 : A.slots + (headSpec ws rm).room.slots ≤ R.slots := by rw [show (headSpec ws rm).room.slots = ms from hrs]; exact hp.2.1
  have hPc : Pc a (A.U.calling g mk a) := hblind _ _ _ _ hp.2.2
  obtain ⟨U, Ls, c0, s0⟩ := A
  dsimp only [Pt.U, Pt.locs, Pt.cells, Pt.slots] at h1 h2 h3 h4 h5 X hn hPc ⊢
  obtain ⟨m9, methY, cY, hn9, hmY, hcY, -, hlY, -⟩ := Cond.codeWith_spec h2
  cases Option.some.inj (hn9.symm.trans hn)
  obtain ⟨kY, hkY, -⟩ := className_of_methodNamed hn
  have hinitY : kY.init = .initialized := Cond.initialized_spec (findClass_of_methodNamed hn) hkY h3
  have h : At U g.method c below := by rw [hg]; exact X.here
  have hlocals9 : W9 + (maxL + 11) + (headSpec ws rm).room.locals ≤ R.locals := hlocals
  have happ : (headSpec ws rm).appliesLoose y e.platform (U.calling g mk a) = true :=
    Spec.appliesLoose_calling (g := g) h hdg hn hkY hinitY
      (X.room_calling (g := g) (R' := (headSpec ws rm).room) hsize hmY hcY hframes (by rw [hlY]; omega) h4 h5) h1
  obtain ⟨mid, hmid⟩ := h.above
  have hfr : (U.setTop g).frames = (.java g :: mid) ++ below := by rw [State.frames_setTop' g h.top, hmid]; rfl
  obtain ⟨o, s₂, hsteps, -, hend, hq⟩ := Steps.callFree hM p X.admits X.cas X.clock (acts := []) hfr happ hPc trivial
  have hq' : vx_Q Qc XC mc ms free a (U.calling g mk a) o s₂ := hq
  rw [State.frames_setTop' g h.top] at hend
  obtain ⟨g₀, hg0⟩ := Option.isSome_iff_exists.mp h.top
  obtain ⟨r, hr⟩ := State.topJava?_eq_some.mp hg0
  have hr' : (({ U with heap := s₂.heap, slotsUsed := s₂.slotsUsed } : State).setVm s₂.vm).frames = .java g₀ :: r := hr
  rcases hq' with ⟨hqc, L, hfe, hL⟩ | ⟨q, rfl, E, ce, L, hx, hce, hcv, hcl, hW₂, hsm, hL⟩
  · obtain ⟨⟨v, rfl⟩, hW₂, e2, q2, q3, q4, q5, q6⟩ := id hfe
    have e3 : s₂ = ({ (U.calling g mk a).setFrames s₂.frames with heap := s₂.heap, slotsUsed := s₂.slotsUsed } : State).setVm s₂.vm := by
      have : s₂ = ({ s₂ with vm := (U.calling g mk a).vm } : State).setVm s₂.vm := rfl
      rw [e2] at this
      exact this
    obtain ⟨c₂, i₂, len₂, hc₂, hd₂, hf₂⟩ := hend
    have hW' : U.WarmedH s₂.vm := hW₂
    have hcc : c₂ = c := by
      have h1 : s₂.code? g.method = U.code? g.method := by
        rw [State.code?_eq, State.code?_eq, hW'.alike.method?]
      exact Option.some.inj (hc₂.symm.trans (h1.trans h.code))
    subst hcc
    have hlen : len₂ = len := by rw [hdg] at hd₂; cases hd₂; rfl
    subst hlen
    have hs₂ : s₂ = (({ U with heap := s₂.heap, slotsUsed := s₂.slotsUsed } : State).setVm s₂.vm).setTop { g with pc := g.pc + len₂, stack := v.toList ++ g.stack } := by
      refine e3.trans ?_
      rw [hf₂, State.calling_eq h.top, State.setFrames_setFrames, State.setTop_of_frames _ hr', hr]
      rfl
    have hsame : U.sameButNew ({ U with heap := s₂.heap, slotsUsed := s₂.slotsUsed } : State) L mc ms := by
      refine ⟨?_, q2, q3, q4, q5, q6⟩
      obtain ⟨t, ht, -⟩ := State.frames_cons hr
      show ({ U with heap := s₂.heap, slotsUsed := s₂.slotsUsed } : State) = { U.setFrames U.frames with heap := s₂.heap, slotsUsed := s₂.slotsUsed }
      rw [State.setFrames_self ht]
    subst hg
    refine Or.inl ⟨v, ⟨(({ U with heap := s₂.heap, slotsUsed := s₂.slotsUsed } : State).setVm s₂.vm), Ls ++ L, c0 + mc, s0 + ms⟩,
      ⟨X.admits, X.cas, X.clock, X.frames, X.room, X.hears, X.method, X.code, (X.here.setHeapUsed s₂.heap s₂.slotsUsed).setVm hW'.alike, X.tail, State.WarmedH.trans X.warmed hW', X.limits, X.bytes, X.same.trans (hsame.setVm s.vm)⟩,
      ⟨g, mk, s₂, L, rfl, rfl, hqc, rfl, hL, rfl, rfl⟩, ?_⟩
    show Steps p.tables e below _ ((({ U with heap := s₂.heap, slotsUsed := s₂.slotsUsed } : State).setVm s₂.vm).setTop { g with pc := g.pc + len₂, stack := v.toList ++ g.stack })
    rw [← hs₂]
    exact hsteps
  · obtain ⟨e2, q2, q3, q4, q5, q6⟩ := id hsm
    have e3 : s₂ = ({ (U.calling g mk a).setFrames s₂.frames with heap := s₂.heap, slotsUsed := s₂.slotsUsed } : State).setVm s₂.vm := by
      have : s₂ = ({ s₂ with vm := (U.calling g mk a).vm } : State).setVm s₂.vm := rfl
      rw [e2] at this
      exact this
    have hf₂ : s₂.frames = .throwing q :: .java g :: U.frames.tail := hend
    have hW' : U.WarmedH s₂.vm := hW₂
    have hs₂ : s₂ = ((({ U with heap := s₂.heap, slotsUsed := s₂.slotsUsed } : State).setVm s₂.vm).setTop g).pushFrame (.throwing q) := by
      refine e3.trans ?_
      rw [hf₂, State.calling_eq h.top, State.setFrames_setFrames, State.pushFrame, State.frames_setTop _ hr', State.setTop_of_frames _ hr', State.setFrames_setFrames, hr]
      rfl
    have hsame : U.sameButNew ({ U with heap := s₂.heap, slotsUsed := s₂.slotsUsed } : State) L mc ms := by
      refine ⟨?_, q2, q3, q4, q5, q6⟩
      obtain ⟨t, ht, -⟩ := State.frames_cons hr
      show ({ U with heap := s₂.heap, slotsUsed := s₂.slotsUsed } : State) = { U.setFrames U.frames with heap := s₂.heap, slotsUsed := s₂.slotsUsed }
      rw [State.setFrames_self ht]
    subst hg
    refine Or.inr ⟨q, ⟨(({ U with heap := s₂.heap, slotsUsed := s₂.slotsUsed } : State).setVm s₂.vm), Ls ++ L, c0 + mc, s0 + ms⟩,
      ⟨X.admits, X.cas, X.clock, X.frames, X.room, X.hears, X.method, X.code, (X.here.setHeapUsed s₂.heap s₂.slotsUsed).setVm hW'.alike, X.tail, State.WarmedH.trans X.warmed hW', X.limits, X.bytes, X.same.trans (hsame.setVm s.vm)⟩,
      ⟨g, mk, s₂, L, E, ce, rfl, rfl, hx, hce, hcv, hcl, rfl, hL, rfl, rfl⟩, ?_⟩
    show Steps p.tables e below _ (((({ U with heap := s₂.heap, slotsUsed := s₂.slotsUsed } : State).setVm s₂.vm).setTop g).pushFrame (.throwing q))
    rw [← hs₂]
    exact hsteps
end
variable {p : Program} {l : Launch} {e : Env} {R : Room} {s : State} {m : MethodId} {args : Array Value} {below : List Frame} {meth : Method} {c : Code} {T : State} {H : Heap} {locs : List Loc} {cells slots : Nat}
theorem vx_callVX (X : Stand p l e R s m args below meth c T locs cells slots) (hexec : p.tables.exec = Jvm.exec) {own C : String} {index : Nat} {y : MethodName} {bytes : ByteArray} {maxL : Nat} {ret : Option FieldType} {hh : List (Nat × Nat × Nat × Nat)}
    (hown : s.vm.findClass own = some m.cls) (hlink : (Cond.methodLink own index y).before args s = true) (hinst : (Cond.instanceMethod y).before args s = true) (hsel : (Cond.selects C y y).before args s = true)
    (hcode : (Cond.codeWith y bytes maxL ret hh).before args s = true) (hy : y.cls ≠ "java/lang/invoke/MethodHandle" ∧ y.cls ≠ "java/lang/invoke/VarHandle")
    {W9 : Nat} {Pre : Pt → Array Value → Prop} {Post : Pt → Array Value → Option Value → Pt → Prop} {PostX : Pt → Array Value → Addr → Pt → Prop} (hK : vx_Back l R p e below s args y 3 W9 Pre Post PostX)
    {b : Addr} {cellB : Cell} (hcell : T.heap[b]? = some cellB) (hobj : cellB.vm.isStatics = false) (hcls : s.vm.findClass C = some cellB.cls)
    {g : JFrame} (hg : g.method = m) (hsize : g.locals.size = c.maxLocals) {argsL rest : List Value} (hlen : ∀ sig, parseMethodDescriptor y.desc = some sig → argsL.length = sig.parameters.length)
    (hstack : g.stack = argsL.reverse ++ .ref b :: rest) (hW : 2 * g.monitorRoom + (rest.map fun v => v.category).sum ≤ W9) (hdg : decode c.code g.pc = .ok (.invokevirtual index, 3))
    (hpre : ∀ vm₁, s.WarmedH vm₁ → Pre ⟨T.setVm vm₁, locs, cells, slots⟩ (Value.ref b :: argsL).toArray) :
    (∃ (v : Option Value) (vm₁ : Vm) (B : Pt), s.WarmedH vm₁ ∧ Stand p l e R s m args below meth c B.U B.locs B.cells B.slots ∧ Post ⟨T.setVm vm₁, locs, cells, slots⟩ (Value.ref b :: argsL).toArray v B ∧
      ∀ target, Steps p.tables e below (B.U.setTop { g with pc := g.pc + 3, stack := v.toList ++ rest }) target → Steps p.tables e below (T.setTop g) target) ∨
    (∃ (q : Addr) (vm₁ : Vm) (B : Pt), s.WarmedH vm₁ ∧ Stand p l e R s m args below meth c B.U B.locs B.cells B.slots ∧ PostX ⟨T.setVm vm₁, locs, cells, slots⟩ (Value.ref b :: argsL).toArray q B ∧
      Steps p.tables e below (T.setTop g) ((B.U.setTop { g with stack := rest }).pushFrame (.throwing q))) := by
  obtain ⟨mk, methM, hnamed, hmethM, hstM, habM⟩ := Cond.instanceMethod_spec hinst
  obtain ⟨m8, methM', cM, hn8, hmethM', -, -, -, -, -, -, hsigM⟩ := Cond.codeWith_spec hcode
  cases Option.some.inj (hn8.symm.trans hnamed)
  cases hmethM.symm.trans hmethM'
  obtain ⟨c2, r2, m2, q1, q2, q3, q4, kP, hkP, hkPi⟩ := Cond.selects_spec hsel
  cases hcls.symm.trans q1
  cases (State.methodFound?_of_named hnamed hy).symm.trans q2
  cases hnamed.symm.trans q3
  have hselP : selectMethod e.platform s.vm cellB.cls mk = .method mk := by rw [Launch.admits_selectMethod X.admits]; exact q4
  obtain ⟨vm₁, X₁, hstep₁⟩ := X.invokevirtual hexec hown hlink hnamed hmethM hstM hkP hkPi hy (a := b) (cell := cellB) hcell
    (fun z h => by rw [h] at hobj; cases hobj) hselP hmethM habM hkP hkPi (g := g) hg (argsL := argsL) (rest := rest) (hlen _ hsigM) hstack hdg
  rcases hK m meth c ⟨T.setVm vm₁, locs, cells, slots⟩ { g with stack := rest } (.invokevirtual index) mk (Value.ref b :: argsL).toArray X₁ hg hsize hdg hW (X₁.named hnamed) (hpre vm₁ X₁.warmed) with ⟨v, B, X', hpost, hsteps⟩ | ⟨q, B, X', hpost, hsteps⟩
  · exact Or.inl ⟨v, vm₁, B, X₁.warmed, X', hpost, fun target h => hstep₁ _ fun acts => by rw [doInvoke_state]; exact hsteps.trans h⟩
  · exact Or.inr ⟨q, vm₁, B, X₁.warmed, X', hpost, hstep₁ _ fun acts => by rw [doInvoke_state]; exact hsteps⟩
theorem vx_callSX (X : Stand p l e R s m args below meth c T locs cells slots) (hexec : p.tables.exec = Jvm.exec) {own : String} {index : Nat} {y : MethodName} {bytes : ByteArray} {maxL : Nat} {ret : Option FieldType} {hh : List (Nat × Nat × Nat × Nat)}
    (hown : s.vm.findClass own = some m.cls) (hlink : (Cond.methodLink own index y).before args s = true) (hstat : (Cond.static y).before args s = true) (hinit : (Cond.initialized y.cls).before args s = true)
    (hcode : (Cond.codeWith y bytes maxL ret hh).before args s = true) (hy : y.cls ≠ "java/lang/invoke/MethodHandle" ∧ y.cls ≠ "java/lang/invoke/VarHandle")
    {W9 : Nat} {Pre : Pt → Array Value → Prop} {Post : Pt → Array Value → Option Value → Pt → Prop} {PostX : Pt → Array Value → Addr → Pt → Prop} (hK : vx_Back l R p e below s args y 3 W9 Pre Post PostX)
    {g : JFrame} (hg : g.method = m) (hsize : g.locals.size = c.maxLocals) {argsL rest : List Value} (hlen : ∀ sig, parseMethodDescriptor y.desc = some sig → argsL.length = sig.parameters.length)
    (hstack : g.stack = argsL.reverse ++ rest) (hW : 2 * g.monitorRoom + (rest.map fun v => v.category).sum ≤ W9) (hdg : decode c.code g.pc = .ok (.invokestatic index, 3))
    (hpre : ∀ vm₁, s.WarmedH vm₁ → Pre ⟨T.setVm vm₁, locs, cells, slots⟩ argsL.toArray) :
    (∃ (v : Option Value) (vm₁ : Vm) (B : Pt), s.WarmedH vm₁ ∧ Stand p l e R s m args below meth c B.U B.locs B.cells B.slots ∧ Post ⟨T.setVm vm₁, locs, cells, slots⟩ argsL.toArray v B ∧
      ∀ target, Steps p.tables e below (B.U.setTop { g with pc := g.pc + 3, stack := v.toList ++ rest }) target → Steps p.tables e below (T.setTop g) target) ∨
    (∃ (q : Addr) (vm₁ : Vm) (B : Pt), s.WarmedH vm₁ ∧ Stand p l e R s m args below meth c B.U B.locs B.cells B.slots ∧ PostX ⟨T.setVm vm₁, locs, cells, slots⟩ argsL.toArray q B ∧
      Steps p.tables e below (T.setTop g) ((B.U.setTop { g with stack := rest }).pushFrame (.throwing q))) := by
  obtain ⟨mk, methM, cM, hnamed, hmethM, -, -, -, -, -, -, hsigM⟩ := Cond.codeWith_spec hcode
  have hstatic : methM.isStatic = true := Cond.static_spec hnamed hmethM hstat
  obtain ⟨kP, hkP, -⟩ := className_of_methodNamed hnamed
  have hinitP : kP.init = .initialized := Cond.initialized_spec (findClass_of_methodNamed hnamed) hkP hinit
  obtain ⟨vm₁, X₁, hstep₁⟩ := X.invokestatic hexec hown hlink hnamed hmethM hstatic hkP hinitP hy (g := g) hg (argsL := argsL) (rest := rest) (hlen _ hsigM) hstack hdg
  rcases hK m meth c ⟨T.setVm vm₁, locs, cells, slots⟩ { g with stack := rest } (.invokestatic index) mk argsL.toArray X₁ hg hsize hdg hW (X₁.named hnamed) (hpre vm₁ X₁.warmed) with ⟨v, B, X', hpost, hsteps⟩ | ⟨q, B, X', hpost, hsteps⟩
  · exact Or.inl ⟨v, vm₁, B, X₁.warmed, X', hpost, fun target h => hstep₁ _ fun acts => by rw [doInvoke_state]; exact hsteps.trans h⟩
  · exact Or.inr ⟨q, vm₁, B, X₁.warmed, X', hpost, hstep₁ _ fun acts => by rw [doInvoke_state]; exact hsteps⟩
theorem vx_callVW (X : Stand p l e R s m args below meth c T locs cells slots) (hexec : p.tables.exec = Jvm.exec) {own C : String} {index : Nat} {y : MethodName} {bytes : ByteArray} {maxL : Nat} {ret : Option FieldType} {hh : List (Nat × Nat × Nat × Nat)}
    (hown : s.vm.findClass own = some m.cls) (hlink : (Cond.methodLink own index y).before args s = true) (hinst : (Cond.instanceMethod y).before args s = true) (hsel : (Cond.selects C y y).before args s = true)
    (hcode : (Cond.codeWith y bytes maxL ret hh).before args s = true) (hy : y.cls ≠ "java/lang/invoke/MethodHandle" ∧ y.cls ≠ "java/lang/invoke/VarHandle")
    {W9 : Nat} {Pre : Pt → Array Value → Prop} {Post : Pt → Array Value → Option Value → Pt → Prop} (hK : Back l R p e below s args y 3 W9 Pre Post)
    {b : Addr} {cellB : Cell} (hcell : T.heap[b]? = some cellB) (hobj : cellB.vm.isStatics = false) (hcls : s.vm.findClass C = some cellB.cls)
    {g : JFrame} (hg : g.method = m) (hsize : g.locals.size = c.maxLocals) {argsL rest : List Value} (hlen : ∀ sig, parseMethodDescriptor y.desc = some sig → argsL.length = sig.parameters.length)
    (hstack : g.stack = argsL.reverse ++ .ref b :: rest) (hW : 2 * g.monitorRoom + (rest.map fun v => v.category).sum ≤ W9) (hdg : decode c.code g.pc = .ok (.invokevirtual index, 3))
    (hpre : ∀ vm₁, s.WarmedH vm₁ → Pre ⟨T.setVm vm₁, locs, cells, slots⟩ (Value.ref b :: argsL).toArray) :
    ∃ (v : Option Value) (vm₁ : Vm) (B : Pt), s.WarmedH vm₁ ∧ Stand p l e R s m args below meth c B.U B.locs B.cells B.slots ∧ Post ⟨T.setVm vm₁, locs, cells, slots⟩ (Value.ref b :: argsL).toArray v B ∧
      ∀ target, Steps p.tables e below (B.U.setTop { g with pc := g.pc + 3, stack := v.toList ++ rest }) target → Steps p.tables e below (T.setTop g) target := by
  obtain ⟨mk, methM, hnamed, hmethM, hstM, habM⟩ := Cond.instanceMethod_spec hinst
  obtain ⟨m8, methM', cM, hn8, hmethM', -, -, -, -, -, -, hsigM⟩ := Cond.codeWith_spec hcode
  cases Option.some.inj (hn8.symm.trans hnamed)
  cases hmethM.symm.trans hmethM'
  obtain ⟨c2, r2, m2, q1, q2, q3, q4, kP, hkP, hkPi⟩ := Cond.selects_spec hsel
  cases hcls.symm.trans q1
  cases (State.methodFound?_of_named hnamed hy).symm.trans q2
  cases hnamed.symm.trans q3
  have hselP : selectMethod e.platform s.vm cellB.cls mk = .method mk := by rw [Launch.admits_selectMethod X.admits]; exact q4
  obtain ⟨vm₁, X₁, hstep₁⟩ := X.invokevirtual hexec hown hlink hnamed hmethM hstM hkP hkPi hy (a := b) (cell := cellB) hcell
    (fun z h => by rw [h] at hobj; cases hobj) hselP hmethM habM hkP hkPi (g := g) hg (argsL := argsL) (rest := rest) (hlen _ hsigM) hstack hdg
  obtain ⟨v, B, X', hpost, hsteps⟩ := hK m meth c ⟨T.setVm vm₁, locs, cells, slots⟩ { g with stack := rest } (.invokevirtual index) mk (Value.ref b :: argsL).toArray X₁ hg hsize hdg hW (X₁.named hnamed) (hpre vm₁ X₁.warmed)
  exact ⟨v, vm₁, B, X₁.warmed, X', hpost, fun target h => hstep₁ _ fun acts => by rw [doInvoke_state]; exact hsteps.trans h⟩
abbrev vx_CVW (R : Room) (s : State) (args : Array Value) (own C : String) (index : Nat) (y : MethodName) (bytes : ByteArray) (maxL : Nat) (ret : Option FieldType) (hh : List (Nat × Nat × Nat × Nat)) (ws : List Cond) (rm : Room) (mc ms n : Nat) : Prop :=
  (rm.cells = mc ∧ rm.slots = ms ∧ rm.frames + 1 ≤ R.frames ∧ 8 + (maxL + 11) + rm.locals ≤ R.locals ∧ (∀ w ∈ ws, ∀ (a' : Array Value) (U : State), s.WarmedH U.vm → w.before a' U = true) ∧ Cond.codeWith y bytes maxL ret hh ∈ ws) ∧
  (Cond.codeWith y bytes maxL ret hh).before args s = true ∧ (Cond.initialized y.cls).before args s = true ∧ (y.cls ≠ "java/lang/invoke/MethodHandle" ∧ y.cls ≠ "java/lang/invoke/VarHandle") ∧
  (∀ sig, parseMethodDescriptor y.desc = some sig → n = sig.parameters.length) ∧ (Cond.methodLink own index y).before args s = true ∧ (Cond.instanceMethod y).before args s = true ∧ (Cond.selects C y y).before args s = true
theorem vx_cwVW {own C : String} {index maxL mc ms : Nat} {y : MethodName} {bytes : ByteArray} {ret : Option FieldType} {hh : List (Nat × Nat × Nat × Nat)} {Ts ws ws' : List Cond} {rm : Room} (n : Nat) (ht : ∀ w ∈ Ts, w.before args s = true) (hT : GoodIn Ts (wsV own index C y ws)) (hw : ws = Cond.codeWith y bytes maxL ret hh :: ws') (hrc : rm.cells = mc) (hrs : rm.slots = ms)
    (hd : y.cls = C ∧ y.cls ≠ "java/lang/invoke/MethodHandle" ∧ y.cls ≠ "java/lang/invoke/VarHandle" ∧ (parseMethodDescriptor y.desc).map (fun d => d.parameters.length) = some n) (hR : rm.frames + 1 ≤ R.frames ∧ 8 + (maxL + 11) + rm.locals ≤ R.locals) :
    vx_CVW R s args own C index y bytes maxL ret hh ws rm mc ms n := by
  obtain ⟨hC, hd⟩ := hd
  subst hC
  have ok : ∀ w ∈ wsV own index y.cls y ws, w.before args s = true := fun w h => ht w (hT w h).1
  have hG : GoodIn Ts ws := fun w h => hT w (by unfold wsV; exact List.mem_append_right _ h)
  have hc : Cond.codeWith y bytes maxL ret hh ∈ ws := by rw [hw]; exact List.mem_cons_self
  refine ⟨⟨hrc, hrs, hR.1, hR.2, pay_in ht hG, hc⟩, ht _ (hG _ hc).1, ok _ (by simp [wsV]), ⟨hd.1, hd.2.1⟩, fun sig h => ?_, ok _ (by simp [wsV]), ok _ (by simp [wsV]), ok _ (by simp [wsV])⟩
  have h2 := hd.2.2
  rw [h] at h2
  exact (Option.some.inj h2).symm
theorem vx_runVW {y : MethodName} {bytes cc : ByteArray} {maxL nL mc ms n index : Nat} {ret : Option FieldType} {hh : List (Nat × Nat × Nat × Nat)} {ws : List Cond} {rm : Room} {Pc : Array Value → State → Prop} {Qc : Array Value → State → Outcome → State → Prop} {free : Addr → Prop} {Ts : List Cond} {own C : String} {b : Addr} {As rest : List Value} {g : JFrame}
    (S : CallFix p m c cc nL s args Ts own) (hM : Met l y ws rm Pc Qc mc ms free) (cw : vx_CVW R s args own C index y bytes maxL ret hh ws rm mc ms n) (hp : PreV s H C b Pc As)
    (hg : g.method = m) (hn : As.length = n) (hsize : g.locals.size = nL) (hstack : g.stack = As.reverse ++ .ref b :: rest) (hW : 2 * g.monitorRoom + (rest.map fun v => v.category).sum ≤ 8) (hdg : decode cc g.pc = .ok (.invokevirtual index, 3)) (hf : cells + mc ≤ R.cells ∧ slots + ms ≤ R.slots) :
    va_Run p l e R s m args below meth c H locs cells slots mc ms g rest (Qc (Value.ref b :: As).toArray) free := by
  obtain ⟨⟨hrc, hrs, hfr, hlo, hws, hcw⟩, hcode, hini, hy, hlen, hl, hin, hse⟩ := cw
  have hK : Back l R p e below s args y 3 8 (PreOf R mc ms Pc) (PostOf Qc mc ms free) := va_backW (hh := hh) (bytes := bytes) (maxL := maxL) (ret := ret) hM hp.1 hrc hrs hfr hlo hws hcw (fun a' U hW => word_at hW (Or.inl (by first | rfl | simp [Cond.onTables, Cond.keeps, Cond.steady])) hini)
  obtain ⟨hx, hb, hml, ho, -⟩ := S
  obtain ⟨-, ⟨cellB, hcB, hoB, hclB⟩, hPc⟩ := hp
  intro T hT X
  obtain ⟨v, vm₁, ⟨U', l2, c2, s2⟩, hW₁, X', ⟨g', mk, t, L, e1, e2, hq, h1, hL, h2, h3⟩, st⟩ := vx_callVW X hx (C := C) (hh := hh) (bytes := bytes) (maxL := maxL) (ret := ret) ho hl hin hse hcode hy hK (by rw [hT]; exact hcB) hoB hclB hg (hsize.trans hml.symm) (argsL := As) (rest := rest) (fun sig h => hn.trans (hlen sig h)) hstack hW (by rw [hb]; exact hdg)
    (fun vm₁ hW₁ => ⟨hf.1, hf.2, hPc (T.setVm vm₁) hT hW₁⟩)
  dsimp only [Pt.U, Pt.locs, Pt.cells, Pt.slots] at X' e1 e2 h1 h2 h3 st
  subst h1; subst h2; subst h3
  exact ⟨v, (T.setVm vm₁).calling g' mk (Value.ref b :: As).toArray, t, U', L, hT, X', hL, e1, e2, hq, st⟩
section
variable {y : MethodName} {bytes cc : ByteArray} {maxL nL mc ms n index : Nat} {ret : Option FieldType} {ws : List Cond} {rm : Room} {Pc : Array Value → State → Prop} {Qc : Array Value → State → Outcome → State → Prop} {XC : String → State → State → Prop} {free : Addr → Prop} {Ts : List Cond} {own C : String} {b : Addr} {As rest : List Value} {g : JFrame}
theorem vx_runVX {hh : List (Nat × Nat × Nat × Nat)} (S : CallFix p m c cc nL s args Ts own) (hM : vx_Met l y ws rm Pc Qc XC mc ms free) (cw : vx_CVW R s args own C index y bytes maxL ret hh ws rm mc ms n) (hp : PreV s H C b Pc As)
    (hg : g.method = m) (hn : As.length = n) (hsize : g.locals.size = nL) (hstack : g.stack = As.reverse ++ .ref b :: rest) (hW : 2 * g.monitorRoom + (rest.map fun v => v.category).sum ≤ 8) (hdg : decode cc g.pc = .ok (.invokevirtual index, 3)) (hf : cells + mc ≤ R.cells ∧ slots + ms ≤ R.slots) :
    vx_Run p l e R s m args below meth c H locs cells slots mc ms g rest (Qc (Value.ref b :: As).toArray) XC free := by
  obtain ⟨⟨hrc, hrs, hfr, hlo, hws, hcw⟩, hcode, hini, hy, hlen, hl, hin, hse⟩ := cw
  have hK : vx_Back l R p e below s args y 3 8 (PreOf R mc ms Pc) (PostOf Qc mc ms free) (vx_Post XC mc ms free) := vx_backW (hh := hh) (bytes := bytes) (maxL := maxL) (ret := ret) hM hp.1 hrc hrs hfr hlo hws hcw (fun a' U hW => word_at hW (Or.inl (by first | rfl | simp [Cond.onTables, Cond.keeps, Cond.steady])) hini)
  obtain ⟨hx, hb, hml, ho, -⟩ := S
  obtain ⟨-, ⟨cellB, hcB, hoB, hclB⟩, hPc⟩ := hp
  intro T hT X
  rcases vx_callVX X hx (C := C) (hh := hh) (bytes := bytes) (maxL := maxL) (ret := ret) ho hl hin hse hcode hy hK (by rw [hT]; exact hcB) hoB hclB hg (hsize.trans hml.symm) (argsL := As) (rest := rest) (fun sig h => hn.trans (hlen sig h)) hstack hW (by rw [hb]; exact hdg)
    (fun vm₁ hW₁ => ⟨hf.1, hf.2, hPc (T.setVm vm₁) hT hW₁⟩) with ⟨v, vm₁, ⟨U', l2, c2, s2⟩, hW₁, X', ⟨g', mk, t, L, e1, e2, hq, h1, hL, h2, h3⟩, st⟩ | ⟨q, vm₁, ⟨U', l2, c2, s2⟩, hW₁, X', ⟨g', mk, t, L, E, ce, e1, e2, hq, hce, hcv, hcl, h1, hL, h2, h3⟩, st⟩
  · dsimp only [Pt.U, Pt.locs, Pt.cells, Pt.slots] at X' e1 e2 h1 h2 h3 st
    subst h1; subst h2; subst h3
    exact Or.inl ⟨v, (T.setVm vm₁).calling g' mk (Value.ref b :: As).toArray, t, U', L, hT, X', hL, e1, e2, hq, st⟩
  · dsimp only [Pt.U, Pt.locs, Pt.cells, Pt.slots] at X' e1 e2 h1 h2 h3 st hcl
    subst h1; subst h2; subst h3
    exact Or.inr ⟨q, (T.setVm vm₁).calling g' mk (Value.ref b :: As).toArray, t, U', L, E, ce, hT, X', hL, e1, e2, hq, hce, hcv, vx_cls hW₁ hcl, st⟩
theorem vx_runSX {hh : List (Nat × Nat × Nat × Nat)} (S : CallFix p m c cc nL s args Ts own) (hM : vx_Met l y ws rm Pc Qc XC mc ms free) (cw : vx_CSW R s args own index y bytes maxL ret hh ws rm mc ms n) (hp : PreS s H Pc As)
    (hg : g.method = m) (hn : As.length = n) (hsize : g.locals.size = nL) (hstack : g.stack = As.reverse ++ rest) (hW : 2 * g.monitorRoom + (rest.map fun v => v.category).sum ≤ 8) (hdg : decode cc g.pc = .ok (.invokestatic index, 3)) (hf : cells + mc ≤ R.cells ∧ slots + ms ≤ R.slots) :
    vx_Run p l e R s m args below meth c H locs cells slots mc ms g rest (Qc As.toArray) XC free := by
  obtain ⟨⟨hrc, hrs, hfr, hlo, hws, hcw⟩, hcode, hini, hy, hlen, hl, hstt⟩ := cw
  have hK : vx_Back l R p e below s args y 3 8 (PreOf R mc ms Pc) (PostOf Qc mc ms free) (vx_Post XC mc ms free) := vx_backW (hh := hh) (bytes := bytes) (maxL := maxL) (ret := ret) hM hp.1 hrc hrs hfr hlo hws hcw (fun a' U hW => word_at hW (Or.inl (by first | rfl | simp [Cond.onTables, Cond.keeps, Cond.steady])) hini)
  obtain ⟨hx, hb, hml, ho, -⟩ := S
  intro T hT X
  rcases vx_callSX X hx (hh := hh) (bytes := bytes) (maxL := maxL) (ret := ret) ho hl hstt hini hcode hy hK hg (hsize.trans hml.symm) (argsL := As) (rest := rest) (fun sig h => hn.trans (hlen sig h)) hstack hW (by rw [hb]; exact hdg)
    (fun vm₁ hW₁ => ⟨hf.1, hf.2, hp.2 (T.setVm vm₁) hT hW₁⟩) with ⟨v, vm₁, ⟨U', l2, c2, s2⟩, hW₁, X', ⟨g', mk, t, L, e1, e2, hq, h1, hL, h2, h3⟩, st⟩ | ⟨q, vm₁, ⟨U', l2, c2, s2⟩, hW₁, X', ⟨g', mk, t, L, E, ce, e1, e2, hq, hce, hcv, hcl, h1, hL, h2, h3⟩, st⟩
  · dsimp only [Pt.U, Pt.locs, Pt.cells, Pt.slots] at X' e1 e2 h1 h2 h3 st
    subst h1; subst h2; subst h3
    exact Or.inl ⟨v, (T.setVm vm₁).calling g' mk As.toArray, t, U', L, hT, X', hL, e1, e2, hq, st⟩
  · dsimp only [Pt.U, Pt.locs, Pt.cells, Pt.slots] at X' e1 e2 h1 h2 h3 st hcl
    subst h1; subst h2; subst h3
    exact Or.inr ⟨q, (T.setVm vm₁).calling g' mk As.toArray, t, U', L, E, ce, hT, X', hL, e1, e2, hq, hce, hcv, vx_cls hW₁ hcl, st⟩
end
end VXH
theorem vx_ofWH {l : Launch} {y : MethodName} {ws ws' : List Cond} {rm : Room} {Pc : Array Value → State → Prop} {Qc : Array Value → State → Outcome → State → Prop} {XC : String → State → State → Prop} {mc ms : Nat} {free : Addr → Prop} {cc : ByteArray} {maxL : Nat} {ret : Option FieldType} {hh : List (Nat × Nat × Nat × Nat)}
    (hy : plainName y.cls = true) (hw : ws = Cond.codeWith y cc maxL ret hh :: ws')
    (body : ∀ p e s m args below meth c s₁, BodyLoose p l y (headSpec ws rm) cc maxL ret e s m args below meth c s₁ → c.maxLocals = maxL → Pc args s →
      W p l e (headSpec ws rm).room s m args below meth c s.heap [] 0 0 (vx_MQ below Qc XC args s mc ms free) (entryFrame m args maxL)) : vx_Met l y ws rm Pc Qc XC mc ms free := by
  refine MetFree.of_bodyS (code := cc) (maxLocals := maxL) (ret := ret) hy ?_ ?_
  · intro args s m h hn
    obtain ⟨m9, meth, c, hn9, h1, h2, h3, h4, -, h5, h6, -⟩ := Cond.codeWith_spec (atoms_spec (ws := ws) h _ (by rw [hw]; exact List.mem_cons_self))
    cases hn.symm.trans hn9
    exact ⟨meth, c, h1, h2, h3, h4, h5, h6⟩
  · intro p e s m args below meth c s₁ B hml hP _
    have hh0 : s₁.heap = s.heap := by rw [B.state]; rfl
    obtain ⟨t, a1, o, b1, b2, b3⟩ := body p e s m args below meth c s₁ B hml hP s₁ hh0 (Stand.of_body B)
    exact ⟨t, o, a1, b1, b2, b3⟩
/-! ===== END ===== -/
end
section
def RJ7 : String := "java/util/Arrays"
def RX0 : String := "Cowmeadow$Dataset"
def TX0 : u_T := fun k => match k with
  | 0 => ("Cowmeadow$Dataset", "table", "LCowmeadow$Table;", true)
  | 1 => ("Cowmeadow$Dataset", "exists", "Z", false)
  | _ => ("Cowmeadow$Dataset", "source", "I", false)
def tyX0 : Nat → FieldType := fun k => match k with
  | 0 => .object "Cowmeadow$Table"
  | 1 => .boolean
  | _ => .int
theorem nmX0 : ∀ a, a < 3 → ∀ b, b < 3 → a ≠ b → (TX0 a).2.1 ≠ (TX0 b).2.1 := by decide +kernel
theorem tyX0_ok : ∀ k, k < 3 → parseFieldDescriptor (TX0 k).2.2.1 = some (tyX0 k) := by decide +kernel
abbrev cX0_init : ByteArray := prog_2_method_1_code
def yX0_init : MethodName := ⟨RX0, "<init>", "(Z)V"⟩
abbrev cX0_copyFrom : ByteArray := prog_2_method_2_code
def yX0_copyFrom : MethodName := ⟨RX0, "copyFrom", "(LCowmeadow$Dataset;)V"⟩
def RX1 : String := "Cowmeadow$Log"
def TX1 : u_T := fun k => match k with
  | 0 => ("Cowmeadow$Log", "start", "I", true)
  | 1 => ("Cowmeadow$Log", "firsts", "[I", true)
  | 2 => ("Cowmeadow$Log", "lengths", "[I", true)
  | 3 => ("Cowmeadow$Log", "marks", "[Z", true)
  | 4 => ("Cowmeadow$Log", "entries", "I", false)
  | _ => ("Cowmeadow$Log", "marked", "[Z", true)
def tyX1 : Nat → FieldType := fun k => match k with
  | 0 => .int
  | 1 => .array .int
  | 2 => .array .int
  | 3 => .array .boolean
  | 4 => .int
  | _ => .array .boolean
theorem nmX1 : ∀ a, a < 6 → ∀ b, b < 6 → a ≠ b → (TX1 a).2.1 ≠ (TX1 b).2.1 := by decide +kernel
theorem tyX1_ok : ∀ k, k < 6 → parseFieldDescriptor (TX1 k).2.2.1 = some (tyX1 k) := by decide +kernel
abbrev cX1_init : ByteArray := prog_3_method_1_code
def yX1_init : MethodName := ⟨RX1, "<init>", "(I)V"⟩
abbrev cX1_isEntry : ByteArray := prog_3_method_2_code
def yX1_isEntry : MethodName := ⟨RX1, "isEntry", "(I)Z"⟩
abbrev cX1_firstOf : ByteArray := prog_3_method_3_code
def yX1_firstOf : MethodName := ⟨RX1, "firstOf", "(I)I"⟩
abbrev cX1_blocksOf : ByteArray := prog_3_method_4_code
def yX1_blocksOf : MethodName := ⟨RX1, "blocksOf", "(I)I"⟩
abbrev cX1_isAllocation : ByteArray := prog_3_method_5_code
def yX1_isAllocation : MethodName := ⟨RX1, "isAllocation", "(I)Z"⟩
abbrev cX1_record : ByteArray := prog_3_method_6_code
def yX1_record : MethodName := ⟨RX1, "record", "(LCowmeadow$Space;LCowmeadow$Space;)Z"⟩
abbrev cX1_markChanges : ByteArray := prog_3_method_7_code
def yX1_markChanges : MethodName := ⟨RX1, "markChanges", "(LCowmeadow$Space;LCowmeadow$Space;)V"⟩
abbrev cX1_markAllocated : ByteArray := prog_3_method_8_code
def yX1_markAllocated : MethodName := ⟨RX1, "markAllocated", "(LCowmeadow$Space;)V"⟩
abbrev cX1_countMarkedRuns : ByteArray := prog_3_method_9_code
def yX1_countMarkedRuns : MethodName := ⟨RX1, "countMarkedRuns", "()I"⟩
abbrev cX1_appendMarkedRuns : ByteArray := prog_3_method_10_code
def yX1_appendMarkedRuns : MethodName := ⟨RX1, "appendMarkedRuns", "(Z)V"⟩
abbrev cX1_append : ByteArray := prog_3_method_11_code
def yX1_append : MethodName := ⟨RX1, "append", "(IIZ)V"⟩
abbrev cX1_countReplayed : ByteArray := prog_3_method_12_code
def yX1_countReplayed : MethodName := ⟨RX1, "countReplayed", "()I"⟩
abbrev cX1_replayEntry : ByteArray := prog_3_method_13_code
def yX1_replayEntry : MethodName := ⟨RX1, "replayEntry", "(I)V"⟩
abbrev cX1_copyFrom : ByteArray := prog_3_method_14_code
def yX1_copyFrom : MethodName := ⟨RX1, "copyFrom", "(LCowmeadow$Log;)V"⟩
def RX2 : String := "Cowmeadow$Snapshot"
def TX2 : u_T := fun k => match k with
  | 0 => ("Cowmeadow$Snapshot", "table", "LCowmeadow$Table;", true)
  | 1 => ("Cowmeadow$Snapshot", "exists", "Z", false)
  | 2 => ("Cowmeadow$Snapshot", "number", "I", false)
  | 3 => ("Cowmeadow$Snapshot", "owner", "I", false)
  | 4 => ("Cowmeadow$Snapshot", "rank", "I", false)
  | _ => ("Cowmeadow$Snapshot", "takenIn", "I", false)
def tyX2 : Nat → FieldType := fun k => match k with
  | 0 => .object "Cowmeadow$Table"
  | 1 => .boolean
  | 2 => .int
  | 3 => .int
  | 4 => .int
  | _ => .int
theorem nmX2 : ∀ a, a < 6 → ∀ b, b < 6 → a ≠ b → (TX2 a).2.1 ≠ (TX2 b).2.1 := by decide +kernel
theorem tyX2_ok : ∀ k, k < 6 → parseFieldDescriptor (TX2 k).2.2.1 = some (tyX2 k) := by decide +kernel
abbrev cX2_init : ByteArray := prog_4_method_1_code
def yX2_init : MethodName := ⟨RX2, "<init>", "()V"⟩
abbrev cX2_belongsTo : ByteArray := prog_4_method_2_code
def yX2_belongsTo : MethodName := ⟨RX2, "belongsTo", "(I)Z"⟩
abbrev cX2_copyFrom : ByteArray := prog_4_method_3_code
def yX2_copyFrom : MethodName := ⟨RX2, "copyFrom", "(LCowmeadow$Snapshot;)V"⟩
def RX3 : String := "Cowmeadow$Space"
def TX3 : u_T := fun k => match k with
  | 0 => ("Cowmeadow$Space", "states", "[I", true)
  | 1 => ("Cowmeadow$Space", "values", "[I", true)
  | 2 => ("Cowmeadow$Space", "births", "[I", true)
  | _ => ("Cowmeadow$Space", "counts", "[I", true)
def tyX3 : Nat → FieldType := fun k => match k with
  | 0 => .array .int
  | 1 => .array .int
  | 2 => .array .int
  | _ => .array .int
theorem nmX3 : ∀ a, a < 4 → ∀ b, b < 4 → a ≠ b → (TX3 a).2.1 ≠ (TX3 b).2.1 := by decide +kernel
theorem tyX3_ok : ∀ k, k < 4 → parseFieldDescriptor (TX3 k).2.2.1 = some (tyX3 k) := by decide +kernel
abbrev cX3_init : ByteArray := prog_5_method_1_code
def yX3_init : MethodName := ⟨RX3, "<init>", "()V"⟩
abbrev cX3_isBlock : ByteArray := prog_5_method_2_code
def yX3_isBlock : MethodName := ⟨RX3, "isBlock", "(I)Z"⟩
abbrev cX3_isAllocated : ByteArray := prog_5_method_3_code
def yX3_isAllocated : MethodName := ⟨RX3, "isAllocated", "(I)Z"⟩
abbrev cX3_valueOf : ByteArray := prog_5_method_4_code
def yX3_valueOf : MethodName := ⟨RX3, "valueOf", "(I)I"⟩
abbrev cX3_setValue : ByteArray := prog_5_method_5_code
def yX3_setValue : MethodName := ⟨RX3, "setValue", "(II)V"⟩
abbrev cX3_birthOf : ByteArray := prog_5_method_6_code
def yX3_birthOf : MethodName := ⟨RX3, "birthOf", "(I)I"⟩
abbrev cX3_bornIn : ByteArray := prog_5_method_7_code
def yX3_bornIn : MethodName := ⟨RX3, "bornIn", "(II)Z"⟩
abbrev cX3_usesOf : ByteArray := prog_5_method_8_code
def yX3_usesOf : MethodName := ⟨RX3, "usesOf", "(I)I"⟩
abbrev cX3_addUse : ByteArray := prog_5_method_9_code
def yX3_addUse : MethodName := ⟨RX3, "addUse", "(I)V"⟩
abbrev cX3_removeUse : ByteArray := prog_5_method_10_code
def yX3_removeUse : MethodName := ⟨RX3, "removeUse", "(I)V"⟩
abbrev cX3_allocate : ByteArray := prog_5_method_11_code
def yX3_allocate : MethodName := ⟨RX3, "allocate", "(III)V"⟩
abbrev cX3_count : ByteArray := prog_5_method_12_code
def yX3_count : MethodName := ⟨RX3, "count", "(III)I"⟩
abbrev cX3_freeInRegion : ByteArray := prog_5_method_13_code
def yX3_freeInRegion : MethodName := ⟨RX3, "freeInRegion", "(I)I"⟩
abbrev cX3_emptiestRegion : ByteArray := prog_5_method_14_code
def yX3_emptiestRegion : MethodName := ⟨RX3, "emptiestRegion", "()I"⟩
abbrev cX3_nextFreeBlock : ByteArray := prog_5_method_15_code
def yX3_nextFreeBlock : MethodName := ⟨RX3, "nextFreeBlock", "()I"⟩
abbrev cX3_retireUnused : ByteArray := prog_5_method_16_code
def yX3_retireUnused : MethodName := ⟨RX3, "retireUnused", "(I)I"⟩
abbrev cX3_releasePending : ByteArray := prog_5_method_17_code
def yX3_releasePending : MethodName := ⟨RX3, "releasePending", "()V"⟩
abbrev cX3_copyFrom : ByteArray := prog_5_method_18_code
def yX3_copyFrom : MethodName := ⟨RX3, "copyFrom", "(LCowmeadow$Space;)V"⟩
def RX4 : String := "Cowmeadow$Table"
def TX4 : u_T := fun k => match k with
  | _ => ("Cowmeadow$Table", "blocks", "[I", true)
def tyX4 : Nat → FieldType := fun k => match k with
  | _ => .array .int
theorem nmX4 : ∀ a, a < 1 → ∀ b, b < 1 → a ≠ b → (TX4 a).2.1 ≠ (TX4 b).2.1 := by decide +kernel
theorem tyX4_ok : ∀ k, k < 1 → parseFieldDescriptor (TX4 k).2.2.1 = some (tyX4 k) := by decide +kernel
abbrev cX4_init : ByteArray := prog_6_method_1_code
def yX4_init : MethodName := ⟨RX4, "<init>", "()V"⟩
abbrev cX4_blockOf : ByteArray := prog_6_method_2_code
def yX4_blockOf : MethodName := ⟨RX4, "blockOf", "(I)I"⟩
abbrev cX4_set : ByteArray := prog_6_method_3_code
def yX4_set : MethodName := ⟨RX4, "set", "(II)V"⟩
abbrev cX4_copyFrom : ByteArray := prog_6_method_4_code
def yX4_copyFrom : MethodName := ⟨RX4, "copyFrom", "(LCowmeadow$Table;)V"⟩
def RX5 : String := "Cowmeadow$Volume"
def TX5 : u_T := fun k => match k with
  | 0 => ("Cowmeadow$Volume", "datasets", "[LCowmeadow$Dataset;", true)
  | 1 => ("Cowmeadow$Volume", "snapshots", "[LCowmeadow$Snapshot;", true)
  | 2 => ("Cowmeadow$Volume", "space", "LCowmeadow$Space;", true)
  | 3 => ("Cowmeadow$Volume", "logs", "[LCowmeadow$Log;", true)
  | 4 => ("Cowmeadow$Volume", "number", "I", false)
  | 5 => ("Cowmeadow$Volume", "nextSnapshot", "I", false)
  | _ => ("Cowmeadow$Volume", "condensations", "I", false)
def tyX5 : Nat → FieldType := fun k => match k with
  | 0 => .array (.object "Cowmeadow$Dataset")
  | 1 => .array (.object "Cowmeadow$Snapshot")
  | 2 => .object "Cowmeadow$Space"
  | 3 => .array (.object "Cowmeadow$Log")
  | 4 => .int
  | 5 => .int
  | _ => .int
theorem nmX5 : ∀ a, a < 7 → ∀ b, b < 7 → a ≠ b → (TX5 a).2.1 ≠ (TX5 b).2.1 := by decide +kernel
theorem tyX5_ok : ∀ k, k < 7 → parseFieldDescriptor (TX5 k).2.2.1 = some (tyX5 k) := by decide +kernel
abbrev cX5_init : ByteArray := prog_7_method_1_code
def yX5_init : MethodName := ⟨RX5, "<init>", "()V"⟩
abbrev cX5_copyFrom : ByteArray := prog_7_method_2_code
def yX5_copyFrom : MethodName := ⟨RX5, "copyFrom", "(LCowmeadow$Volume;)V"⟩
abbrev cX5_findDataset : ByteArray := prog_7_method_3_code
def yX5_findDataset : MethodName := ⟨RX5, "findDataset", "(I)LCowmeadow$Dataset;"⟩
abbrev cX5_findSnapshot : ByteArray := prog_7_method_4_code
def yX5_findSnapshot : MethodName := ⟨RX5, "findSnapshot", "(I)LCowmeadow$Snapshot;"⟩
abbrev cX5_snapshotOfRank : ByteArray := prog_7_method_5_code
def yX5_snapshotOfRank : MethodName := ⟨RX5, "snapshotOfRank", "(II)LCowmeadow$Snapshot;"⟩
abbrev cX5_unusedSnapshot : ByteArray := prog_7_method_6_code
def yX5_unusedSnapshot : MethodName := ⟨RX5, "unusedSnapshot", "()LCowmeadow$Snapshot;"⟩
abbrev cX5_unusedDataset : ByteArray := prog_7_method_7_code
def yX5_unusedDataset : MethodName := ⟨RX5, "unusedDataset", "()I"⟩
abbrev cX5_countDatasets : ByteArray := prog_7_method_8_code
def yX5_countDatasets : MethodName := ⟨RX5, "countDatasets", "()I"⟩
abbrev cX5_snapshotsOf : ByteArray := prog_7_method_9_code
def yX5_snapshotsOf : MethodName := ⟨RX5, "snapshotsOf", "(I)I"⟩
abbrev cX5_isOrigin : ByteArray := prog_7_method_10_code
def yX5_isOrigin : MethodName := ⟨RX5, "isOrigin", "(I)Z"⟩
abbrev cX5_hasOriginBehind : ByteArray := prog_7_method_11_code
def yX5_hasOriginBehind : MethodName := ⟨RX5, "hasOriginBehind", "(LCowmeadow$Snapshot;)Z"⟩
abbrev cX5_isBehind : ByteArray := prog_7_method_12_code
def yX5_isBehind : MethodName := ⟨RX5, "isBehind", "(LCowmeadow$Snapshot;LCowmeadow$Snapshot;)Z"⟩
abbrev cX5_put : ByteArray := prog_7_method_13_code
def yX5_put : MethodName := ⟨RX5, "put", "(LCowmeadow$Table;II)V"⟩
abbrev cX5_fill : ByteArray := prog_7_method_14_code
def yX5_fill : MethodName := ⟨RX5, "fill", "(LCowmeadow$Table;LCowmeadow$Table;)V"⟩
abbrev cX5_clear : ByteArray := prog_7_method_15_code
def yX5_clear : MethodName := ⟨RX5, "clear", "(LCowmeadow$Table;)V"⟩
abbrev cX5_settle : ByteArray := prog_7_method_16_code
def yX5_settle : MethodName := ⟨RX5, "settle", "()I"⟩
abbrev cX5_take : ByteArray := prog_7_method_17_code
def yX5_take : MethodName := ⟨RX5, "take", "(LCowmeadow$Snapshot;LCowmeadow$Dataset;I)V"⟩
abbrev cX5_branch : ByteArray := prog_7_method_18_code
def yX5_branch : MethodName := ⟨RX5, "branch", "(ILCowmeadow$Snapshot;)V"⟩
abbrev cX5_drop : ByteArray := prog_7_method_19_code
def yX5_drop : MethodName := ⟨RX5, "drop", "(LCowmeadow$Snapshot;)V"⟩
abbrev cX5_dropBehind : ByteArray := prog_7_method_20_code
def yX5_dropBehind : MethodName := ⟨RX5, "dropBehind", "(LCowmeadow$Snapshot;)I"⟩
abbrev cX5_handOver : ByteArray := prog_7_method_21_code
def yX5_handOver : MethodName := ⟨RX5, "handOver", "(LCowmeadow$Snapshot;I)V"⟩
def RX6 : String := "Cowmeadow"
def TX6 : u_T := fun k => match k with
  | 0 => ("Cowmeadow", "open", "LCowmeadow$Volume;", true)
  | 1 => ("Cowmeadow", "committed", "LCowmeadow$Volume;", true)
  | 2 => ("Cowmeadow", "taken", "[I", true)
  | _ => ("Cowmeadow", "uses", "[I", true)
def tyX6 : Nat → FieldType := fun k => match k with
  | 0 => .object "Cowmeadow$Volume"
  | 1 => .object "Cowmeadow$Volume"
  | 2 => .array .int
  | _ => .array .int
theorem nmX6 : ∀ a, a < 4 → ∀ b, b < 4 → a ≠ b → (TX6 a).2.1 ≠ (TX6 b).2.1 := by decide +kernel
theorem tyX6_ok : ∀ k, k < 4 → parseFieldDescriptor (TX6 k).2.2.1 = some (tyX6 k) := by decide +kernel
abbrev cX6_init : ByteArray := prog_1_method_1_code
def yX6_init : MethodName := ⟨RX6, "<init>", "()V"⟩
abbrev cX6_write : ByteArray := prog_1_method_2_code
def yX6_write : MethodName := ⟨RX6, "write", "(IIII)I"⟩
abbrev cX6_read : ByteArray := prog_1_method_3_code
def yX6_read : MethodName := ⟨RX6, "read", "(III)I"⟩
abbrev cX6_blockAt : ByteArray := prog_1_method_4_code
def yX6_blockAt : MethodName := ⟨RX6, "blockAt", "(III)I"⟩
abbrev cX6_length : ByteArray := prog_1_method_5_code
def yX6_length : MethodName := ⟨RX6, "length", "(II)I"⟩
abbrev cX6_punch : ByteArray := prog_1_method_6_code
def yX6_punch : MethodName := ⟨RX6, "punch", "(IIII)I"⟩
abbrev cX6_reflink : ByteArray := prog_1_method_7_code
def yX6_reflink : MethodName := ⟨RX6, "reflink", "(IIIIII)I"⟩
abbrev cX6_commit : ByteArray := prog_1_method_8_code
def yX6_commit : MethodName := ⟨RX6, "commit", "()I"⟩
abbrev cX6_crash : ByteArray := prog_1_method_9_code
def yX6_crash : MethodName := ⟨RX6, "crash", "()I"⟩
abbrev cX6_transaction : ByteArray := prog_1_method_10_code
def yX6_transaction : MethodName := ⟨RX6, "transaction", "()I"⟩
abbrev cX6_snapshot : ByteArray := prog_1_method_11_code
def yX6_snapshot : MethodName := ⟨RX6, "snapshot", "(I)I"⟩
abbrev cX6_readSnapshot : ByteArray := prog_1_method_12_code
def yX6_readSnapshot : MethodName := ⟨RX6, "readSnapshot", "(III)I"⟩
abbrev cX6_blockInSnapshot : ByteArray := prog_1_method_13_code
def yX6_blockInSnapshot : MethodName := ⟨RX6, "blockInSnapshot", "(III)I"⟩
abbrev cX6_transactionOf : ByteArray := prog_1_method_14_code
def yX6_transactionOf : MethodName := ⟨RX6, "transactionOf", "(I)I"⟩
abbrev cX6_datasetOf : ByteArray := prog_1_method_15_code
def yX6_datasetOf : MethodName := ⟨RX6, "datasetOf", "(I)I"⟩
abbrev cX6_snapshots : ByteArray := prog_1_method_16_code
def yX6_snapshots : MethodName := ⟨RX6, "snapshots", "(I)I"⟩
abbrev cX6_snapshotAt : ByteArray := prog_1_method_17_code
def yX6_snapshotAt : MethodName := ⟨RX6, "snapshotAt", "(II)I"⟩
abbrev cX6_destroySnapshot : ByteArray := prog_1_method_18_code
def yX6_destroySnapshot : MethodName := ⟨RX6, "destroySnapshot", "(I)I"⟩
abbrev cX6_rollback : ByteArray := prog_1_method_19_code
def yX6_rollback : MethodName := ⟨RX6, "rollback", "(II)I"⟩
abbrev cX6_changed : ByteArray := prog_1_method_20_code
def yX6_changed : MethodName := ⟨RX6, "changed", "(II)I"⟩
abbrev cX6_datasets : ByteArray := prog_1_method_21_code
def yX6_datasets : MethodName := ⟨RX6, "datasets", "()I"⟩
abbrev cX6_makeClone : ByteArray := prog_1_method_22_code
def yX6_makeClone : MethodName := ⟨RX6, "makeClone", "(I)I"⟩
abbrev cX6_origin : ByteArray := prog_1_method_23_code
def yX6_origin : MethodName := ⟨RX6, "origin", "(I)I"⟩
abbrev cX6_promote : ByteArray := prog_1_method_24_code
def yX6_promote : MethodName := ⟨RX6, "promote", "(I)I"⟩
abbrev cX6_destroy : ByteArray := prog_1_method_25_code
def yX6_destroy : MethodName := ⟨RX6, "destroy", "(I)I"⟩
abbrev cX6_referenced : ByteArray := prog_1_method_26_code
def yX6_referenced : MethodName := ⟨RX6, "referenced", "(I)I"⟩
abbrev cX6_unique : ByteArray := prog_1_method_27_code
def yX6_unique : MethodName := ⟨RX6, "unique", "(I)I"⟩
abbrev cX6_uniqueOfSnapshot : ByteArray := prog_1_method_28_code
def yX6_uniqueOfSnapshot : MethodName := ⟨RX6, "uniqueOfSnapshot", "(I)I"⟩
abbrev cX6_newer : ByteArray := prog_1_method_29_code
def yX6_newer : MethodName := ⟨RX6, "newer", "(II)I"⟩
abbrev cX6_birth : ByteArray := prog_1_method_30_code
def yX6_birth : MethodName := ⟨RX6, "birth", "(I)I"⟩
abbrev cX6_references : ByteArray := prog_1_method_31_code
def yX6_references : MethodName := ⟨RX6, "references", "(I)I"⟩
abbrev cX6_free : ByteArray := prog_1_method_32_code
def yX6_free : MethodName := ⟨RX6, "free", "()I"⟩
abbrev cX6_pending : ByteArray := prog_1_method_33_code
def yX6_pending : MethodName := ⟨RX6, "pending", "()I"⟩
abbrev cX6_freeIn : ByteArray := prog_1_method_34_code
def yX6_freeIn : MethodName := ⟨RX6, "freeIn", "(I)I"⟩
abbrev cX6_logEntries : ByteArray := prog_1_method_35_code
def yX6_logEntries : MethodName := ⟨RX6, "logEntries", "(I)I"⟩
abbrev cX6_runAt : ByteArray := prog_1_method_36_code
def yX6_runAt : MethodName := ⟨RX6, "runAt", "(II)I"⟩
abbrev cX6_allocates : ByteArray := prog_1_method_37_code
def yX6_allocates : MethodName := ⟨RX6, "allocates", "(II)Z"⟩
abbrev cX6_replay : ByteArray := prog_1_method_38_code
def yX6_replay : MethodName := ⟨RX6, "replay", "(I)I"⟩
abbrev cX6_condensed : ByteArray := prog_1_method_39_code
def yX6_condensed : MethodName := ⟨RX6, "condensed", "()I"⟩
abbrev cX6_datasetOrThrow : ByteArray := prog_1_method_40_code
def yX6_datasetOrThrow : MethodName := ⟨RX6, "datasetOrThrow", "(I)LCowmeadow$Dataset;"⟩
abbrev cX6_snapshotOrThrow : ByteArray := prog_1_method_41_code
def yX6_snapshotOrThrow : MethodName := ⟨RX6, "snapshotOrThrow", "(I)LCowmeadow$Snapshot;"⟩
abbrev cX6_placeOrThrow : ByteArray := prog_1_method_42_code
def yX6_placeOrThrow : MethodName := ⟨RX6, "placeOrThrow", "(II)I"⟩
abbrev cX6_blockOrThrow : ByteArray := prog_1_method_43_code
def yX6_blockOrThrow : MethodName := ⟨RX6, "blockOrThrow", "(I)V"⟩
abbrev cX6_regionOrThrow : ByteArray := prog_1_method_44_code
def yX6_regionOrThrow : MethodName := ⟨RX6, "regionOrThrow", "(I)V"⟩
abbrev cX6_logOrThrow : ByteArray := prog_1_method_45_code
def yX6_logOrThrow : MethodName := ⟨RX6, "logOrThrow", "(I)LCowmeadow$Log;"⟩
abbrev cX6_logWithEntryOrThrow : ByteArray := prog_1_method_46_code
def yX6_logWithEntryOrThrow : MethodName := ⟨RX6, "logWithEntryOrThrow", "(II)LCowmeadow$Log;"⟩
abbrev cX6_fits : ByteArray := prog_1_method_47_code
def yX6_fits : MethodName := ⟨RX6, "fits", "(II)Z"⟩
abbrev cX6_take : ByteArray := prog_1_method_48_code
def yX6_take : MethodName := ⟨RX6, "take", "(LCowmeadow$Table;II)V"⟩
abbrev cX6_closeTransaction : ByteArray := prog_1_method_49_code
def yX6_closeTransaction : MethodName := ⟨RX6, "closeTransaction", "()I"⟩
abbrev cX6_countUses : ByteArray := prog_1_method_50_code
def yX6_countUses : MethodName := ⟨RX6, "countUses", "(LCowmeadow$Table;)V"⟩
abbrev cX6_countOwn : ByteArray := prog_1_method_51_code
def yX6_countOwn : MethodName := ⟨RX6, "countOwn", "(LCowmeadow$Table;)I"⟩
def RX7 : String := "CowmeadowModel"
def TX7 : u_T := fun k => match k with
  | 0 => ("CowmeadowModel", "now", "[I", true)
  | 1 => ("CowmeadowModel", "kept", "[I", true)
  | 2 => ("CowmeadowModel", "counted", "[I", true)
  | 3 => ("CowmeadowModel", "taken", "[I", true)
  | _ => ("CowmeadowModel", "last", "I", false)
def tyX7 : Nat → FieldType := fun k => match k with
  | 0 => .array .int
  | 1 => .array .int
  | 2 => .array .int
  | 3 => .array .int
  | _ => .int
theorem nmX7 : ∀ a, a < 5 → ∀ b, b < 5 → a ≠ b → (TX7 a).2.1 ≠ (TX7 b).2.1 := by decide +kernel
theorem tyX7_ok : ∀ k, k < 5 → parseFieldDescriptor (TX7 k).2.2.1 = some (tyX7 k) := by decide +kernel
abbrev cX7_init : ByteArray := prog_9_method_1_code
def yX7_init : MethodName := ⟨RX7, "<init>", "()V"⟩
abbrev cX7_thrown : ByteArray := prog_9_method_2_code
def yX7_thrown : MethodName := ⟨RX7, "thrown", "()I"⟩
abbrev cX7_in : ByteArray := prog_9_method_3_code
def yX7_in : MethodName := ⟨RX7, "in", "(III)Z"⟩
abbrev cX7_isSet : ByteArray := prog_9_method_4_code
def yX7_isSet : MethodName := ⟨RX7, "isSet", "(I)Z"⟩
abbrev cX7_isFile : ByteArray := prog_9_method_5_code
def yX7_isFile : MethodName := ⟨RX7, "isFile", "(I)Z"⟩
abbrev cX7_isSpot : ByteArray := prog_9_method_6_code
def yX7_isSpot : MethodName := ⟨RX7, "isSpot", "(II)Z"⟩
abbrev cX7_slotOf : ByteArray := prog_9_method_7_code
def yX7_slotOf : MethodName := ⟨RX7, "slotOf", "(I)I"⟩
abbrev cX7_spot : ByteArray := prog_9_method_8_code
def yX7_spot : MethodName := ⟨RX7, "spot", "(III)I"⟩
abbrev cX7_fits : ByteArray := prog_9_method_9_code
def yX7_fits : MethodName := ⟨RX7, "fits", "(ZZ)Z"⟩
abbrev cX7_counts : ByteArray := prog_9_method_10_code
def yX7_counts : MethodName := ⟨RX7, "counts", "()I"⟩
abbrev cX7_isFree : ByteArray := prog_9_method_11_code
def yX7_isFree : MethodName := ⟨RX7, "isFree", "(I)Z"⟩
abbrev cX7_countFree : ByteArray := prog_9_method_12_code
def yX7_countFree : MethodName := ⟨RX7, "countFree", "(II)I"⟩
abbrev cX7_nextFree : ByteArray := prog_9_method_13_code
def yX7_nextFree : MethodName := ⟨RX7, "nextFree", "()I"⟩
abbrev cX7_write : ByteArray := prog_9_method_14_code
def yX7_write : MethodName := ⟨RX7, "write", "(IIII)I"⟩
abbrev cX7_isKnown : ByteArray := prog_9_method_15_code
def yX7_isKnown : MethodName := ⟨RX7, "isKnown", "(III)Z"⟩
abbrev cX7_valueAt : ByteArray := prog_9_method_16_code
def yX7_valueAt : MethodName := ⟨RX7, "valueAt", "(I)I"⟩
abbrev cX7_read : ByteArray := prog_9_method_17_code
def yX7_read : MethodName := ⟨RX7, "read", "(III)I"⟩
abbrev cX7_blockAt : ByteArray := prog_9_method_18_code
def yX7_blockAt : MethodName := ⟨RX7, "blockAt", "(III)I"⟩
abbrev cX7_length : ByteArray := prog_9_method_19_code
def yX7_length : MethodName := ⟨RX7, "length", "(II)I"⟩
abbrev cX7_punch : ByteArray := prog_9_method_20_code
def yX7_punch : MethodName := ⟨RX7, "punch", "(IIII)I"⟩
abbrev cX7_reflink : ByteArray := prog_9_method_21_code
def yX7_reflink : MethodName := ⟨RX7, "reflink", "(IIIIII)I"⟩
abbrev cX7_isAllocated : ByteArray := prog_9_method_22_code
def yX7_isAllocated : MethodName := ⟨RX7, "isAllocated", "(I)Z"⟩
abbrev cX7_isLogged : ByteArray := prog_9_method_23_code
def yX7_isLogged : MethodName := ⟨RX7, "isLogged", "(II)Z"⟩
abbrev cX7_runs : ByteArray := prog_9_method_24_code
def yX7_runs : MethodName := ⟨RX7, "runs", "(IIZ)I"⟩
abbrev cX7_commits : ByteArray := prog_9_method_25_code
def yX7_commits : MethodName := ⟨RX7, "commits", "()I"⟩
abbrev cX7_commit : ByteArray := prog_9_method_26_code
def yX7_commit : MethodName := ⟨RX7, "commit", "()I"⟩
abbrev cX7_crash : ByteArray := prog_9_method_27_code
def yX7_crash : MethodName := ⟨RX7, "crash", "()I"⟩
abbrev cX7_transaction : ByteArray := prog_9_method_28_code
def yX7_transaction : MethodName := ⟨RX7, "transaction", "()I"⟩
abbrev cX7_snapshot : ByteArray := prog_9_method_29_code
def yX7_snapshot : MethodName := ⟨RX7, "snapshot", "(I)I"⟩
abbrev cX7_isShot : ByteArray := prog_9_method_30_code
def yX7_isShot : MethodName := ⟨RX7, "isShot", "(III)Z"⟩
abbrev cX7_inShot : ByteArray := prog_9_method_31_code
def yX7_inShot : MethodName := ⟨RX7, "inShot", "(III)I"⟩
abbrev cX7_readSnapshot : ByteArray := prog_9_method_32_code
def yX7_readSnapshot : MethodName := ⟨RX7, "readSnapshot", "(III)I"⟩
abbrev cX7_blockInSnapshot : ByteArray := prog_9_method_33_code
def yX7_blockInSnapshot : MethodName := ⟨RX7, "blockInSnapshot", "(III)I"⟩
abbrev cX7_transactionOf : ByteArray := prog_9_method_34_code
def yX7_transactionOf : MethodName := ⟨RX7, "transactionOf", "(I)I"⟩
abbrev cX7_datasetOf : ByteArray := prog_9_method_35_code
def yX7_datasetOf : MethodName := ⟨RX7, "datasetOf", "(I)I"⟩
abbrev cX7_snapshots : ByteArray := prog_9_method_36_code
def yX7_snapshots : MethodName := ⟨RX7, "snapshots", "(I)I"⟩
abbrev cX7_snapshotAt : ByteArray := prog_9_method_37_code
def yX7_snapshotAt : MethodName := ⟨RX7, "snapshotAt", "(II)I"⟩
abbrev cX7_isOrigin : ByteArray := prog_9_method_38_code
def yX7_isOrigin : MethodName := ⟨RX7, "isOrigin", "(I)Z"⟩
abbrev cX7_placeOf : ByteArray := prog_9_method_39_code
def yX7_placeOf : MethodName := ⟨RX7, "placeOf", "(I)I"⟩
abbrev cX7_drops : ByteArray := prog_9_method_40_code
def yX7_drops : MethodName := ⟨RX7, "drops", "(I)V"⟩
abbrev cX7_destroySnapshot : ByteArray := prog_9_method_41_code
def yX7_destroySnapshot : MethodName := ⟨RX7, "destroySnapshot", "(I)I"⟩
abbrev cX7_rollback : ByteArray := prog_9_method_42_code
def yX7_rollback : MethodName := ⟨RX7, "rollback", "(II)I"⟩
abbrev cX7_changed : ByteArray := prog_9_method_43_code
def yX7_changed : MethodName := ⟨RX7, "changed", "(II)I"⟩
abbrev cX7_countSets : ByteArray := prog_9_method_44_code
def yX7_countSets : MethodName := ⟨RX7, "countSets", "()I"⟩
abbrev cX7_datasets : ByteArray := prog_9_method_45_code
def yX7_datasets : MethodName := ⟨RX7, "datasets", "()I"⟩
abbrev cX7_makeClone : ByteArray := prog_9_method_46_code
def yX7_makeClone : MethodName := ⟨RX7, "makeClone", "(I)I"⟩
abbrev cX7_origin : ByteArray := prog_9_method_47_code
def yX7_origin : MethodName := ⟨RX7, "origin", "(I)I"⟩
abbrev cX7_promote : ByteArray := prog_9_method_48_code
def yX7_promote : MethodName := ⟨RX7, "promote", "(I)I"⟩
abbrev cX7_destroy : ByteArray := prog_9_method_49_code
def yX7_destroy : MethodName := ⟨RX7, "destroy", "(I)I"⟩
abbrev cX7_blocksIn : ByteArray := prog_9_method_50_code
def yX7_blocksIn : MethodName := ⟨RX7, "blocksIn", "(IZ)I"⟩
abbrev cX7_referenced : ByteArray := prog_9_method_51_code
def yX7_referenced : MethodName := ⟨RX7, "referenced", "(I)I"⟩
abbrev cX7_unique : ByteArray := prog_9_method_52_code
def yX7_unique : MethodName := ⟨RX7, "unique", "(I)I"⟩
abbrev cX7_uniqueOfSnapshot : ByteArray := prog_9_method_53_code
def yX7_uniqueOfSnapshot : MethodName := ⟨RX7, "uniqueOfSnapshot", "(I)I"⟩
abbrev cX7_newer : ByteArray := prog_9_method_54_code
def yX7_newer : MethodName := ⟨RX7, "newer", "(II)I"⟩
abbrev cX7_birth : ByteArray := prog_9_method_55_code
def yX7_birth : MethodName := ⟨RX7, "birth", "(I)I"⟩
abbrev cX7_references : ByteArray := prog_9_method_56_code
def yX7_references : MethodName := ⟨RX7, "references", "(I)I"⟩
abbrev cX7_free : ByteArray := prog_9_method_57_code
def yX7_free : MethodName := ⟨RX7, "free", "()I"⟩
abbrev cX7_pending : ByteArray := prog_9_method_58_code
def yX7_pending : MethodName := ⟨RX7, "pending", "()I"⟩
abbrev cX7_isRegion : ByteArray := prog_9_method_59_code
def yX7_isRegion : MethodName := ⟨RX7, "isRegion", "(I)Z"⟩
abbrev cX7_freeIn : ByteArray := prog_9_method_60_code
def yX7_freeIn : MethodName := ⟨RX7, "freeIn", "(I)I"⟩
abbrev cX7_logEntries : ByteArray := prog_9_method_61_code
def yX7_logEntries : MethodName := ⟨RX7, "logEntries", "(I)I"⟩
abbrev cX7_isEntry : ByteArray := prog_9_method_62_code
def yX7_isEntry : MethodName := ⟨RX7, "isEntry", "(II)Z"⟩
abbrev cX7_runAt : ByteArray := prog_9_method_63_code
def yX7_runAt : MethodName := ⟨RX7, "runAt", "(II)I"⟩
abbrev cX7_allocates : ByteArray := prog_9_method_64_code
def yX7_allocates : MethodName := ⟨RX7, "allocates", "(II)Z"⟩
abbrev cX7_replay : ByteArray := prog_9_method_65_code
def yX7_replay : MethodName := ⟨RX7, "replay", "(I)I"⟩
abbrev cX7_condensed : ByteArray := prog_9_method_66_code
def yX7_condensed : MethodName := ⟨RX7, "condensed", "()I"⟩
abbrev cJ7_fill_53178 : ByteArray := prog_18_method_103_code
def yJ7_fill_53178 : MethodName := ⟨RJ7, "fill", "([II)V"⟩
def RL : String := "CowmeadowLaw"
abbrev cL_write : ByteArray := method_3_code
def yL_write : MethodName := ⟨RL, "write", "(LCowmeadow;IIII[J)I"⟩
abbrev cL_read : ByteArray := method_4_code
def yL_read : MethodName := ⟨RL, "read", "(LCowmeadow;III[J)I"⟩
abbrev cL_blockAt : ByteArray := method_5_code
def yL_blockAt : MethodName := ⟨RL, "blockAt", "(LCowmeadow;III[J)I"⟩
abbrev cL_length : ByteArray := method_6_code
def yL_length : MethodName := ⟨RL, "length", "(LCowmeadow;II[J)I"⟩
abbrev cL_punch : ByteArray := method_7_code
def yL_punch : MethodName := ⟨RL, "punch", "(LCowmeadow;IIII[J)I"⟩
abbrev cL_reflink : ByteArray := method_8_code
def yL_reflink : MethodName := ⟨RL, "reflink", "(LCowmeadow;IIIIII[J)I"⟩
abbrev cL_snapshot : ByteArray := method_9_code
def yL_snapshot : MethodName := ⟨RL, "snapshot", "(LCowmeadow;I[J)I"⟩
abbrev cL_readSnapshot : ByteArray := method_10_code
def yL_readSnapshot : MethodName := ⟨RL, "readSnapshot", "(LCowmeadow;III[J)I"⟩
abbrev cL_blockInSnapshot : ByteArray := method_11_code
def yL_blockInSnapshot : MethodName := ⟨RL, "blockInSnapshot", "(LCowmeadow;III[J)I"⟩
abbrev cL_transactionOf : ByteArray := method_12_code
def yL_transactionOf : MethodName := ⟨RL, "transactionOf", "(LCowmeadow;I[J)I"⟩
abbrev cL_datasetOf : ByteArray := method_13_code
def yL_datasetOf : MethodName := ⟨RL, "datasetOf", "(LCowmeadow;I[J)I"⟩
abbrev cL_snapshots : ByteArray := method_14_code
def yL_snapshots : MethodName := ⟨RL, "snapshots", "(LCowmeadow;I[J)I"⟩
abbrev cL_snapshotAt : ByteArray := method_15_code
def yL_snapshotAt : MethodName := ⟨RL, "snapshotAt", "(LCowmeadow;II[J)I"⟩
abbrev cL_destroySnapshot : ByteArray := method_16_code
def yL_destroySnapshot : MethodName := ⟨RL, "destroySnapshot", "(LCowmeadow;I[J)I"⟩
abbrev cL_rollback : ByteArray := method_17_code
def yL_rollback : MethodName := ⟨RL, "rollback", "(LCowmeadow;II[J)I"⟩
abbrev cL_changed : ByteArray := method_18_code
def yL_changed : MethodName := ⟨RL, "changed", "(LCowmeadow;II[J)I"⟩
abbrev cL_makeClone : ByteArray := method_19_code
def yL_makeClone : MethodName := ⟨RL, "makeClone", "(LCowmeadow;I[J)I"⟩
abbrev cL_origin : ByteArray := method_20_code
def yL_origin : MethodName := ⟨RL, "origin", "(LCowmeadow;I[J)I"⟩
abbrev cL_promote : ByteArray := method_21_code
def yL_promote : MethodName := ⟨RL, "promote", "(LCowmeadow;I[J)I"⟩
abbrev cL_destroy : ByteArray := method_22_code
def yL_destroy : MethodName := ⟨RL, "destroy", "(LCowmeadow;I[J)I"⟩
abbrev cL_referenced : ByteArray := method_23_code
def yL_referenced : MethodName := ⟨RL, "referenced", "(LCowmeadow;I[J)I"⟩
abbrev cL_unique : ByteArray := method_24_code
def yL_unique : MethodName := ⟨RL, "unique", "(LCowmeadow;I[J)I"⟩
abbrev cL_uniqueOfSnapshot : ByteArray := method_25_code
def yL_uniqueOfSnapshot : MethodName := ⟨RL, "uniqueOfSnapshot", "(LCowmeadow;I[J)I"⟩
abbrev cL_newer : ByteArray := method_26_code
def yL_newer : MethodName := ⟨RL, "newer", "(LCowmeadow;II[J)I"⟩
abbrev cL_birth : ByteArray := method_27_code
def yL_birth : MethodName := ⟨RL, "birth", "(LCowmeadow;I[J)I"⟩
abbrev cL_references : ByteArray := method_28_code
def yL_references : MethodName := ⟨RL, "references", "(LCowmeadow;I[J)I"⟩
abbrev cL_freeIn : ByteArray := method_29_code
def yL_freeIn : MethodName := ⟨RL, "freeIn", "(LCowmeadow;I[J)I"⟩
abbrev cL_logEntries : ByteArray := method_30_code
def yL_logEntries : MethodName := ⟨RL, "logEntries", "(LCowmeadow;I[J)I"⟩
abbrev cL_runAt : ByteArray := method_31_code
def yL_runAt : MethodName := ⟨RL, "runAt", "(LCowmeadow;II[J)I"⟩
abbrev cL_allocates : ByteArray := method_32_code
def yL_allocates : MethodName := ⟨RL, "allocates", "(LCowmeadow;II[J)I"⟩
abbrev cL_replay : ByteArray := method_33_code
def yL_replay : MethodName := ⟨RL, "replay", "(LCowmeadow;I[J)I"⟩
abbrev cL_law : ByteArray := code
def yL_law : MethodName := ⟨RL, "law", "([I)Z"⟩
abbrev vwCl : List vw_C := [(RX0, TX0, 3), (RX1, TX1, 6), (RX2, TX2, 6), (RX3, TX3, 4), (RX4, TX4, 1), (RX5, TX5, 7), (RX6, TX6, 4), (RX7, TX7, 5)]
end
section
theorem dX0_init_0 : decode cX0_init 0 = .ok (.aload_n 0, 1) := by decide +kernel
theorem dX0_init_1 : decode cX0_init 1 = .ok (.invokespecial 3, 3) := by decide +kernel
theorem dX0_init_4 : decode cX0_init 4 = .ok (.aload_n 0, 1) := by decide +kernel
theorem dX0_init_5 : decode cX0_init 5 = .ok (.new 9, 3) := by decide +kernel
theorem dX0_init_8 : decode cX0_init 8 = .ok (.dup, 1) := by decide +kernel
theorem dX0_init_9 : decode cX0_init 9 = .ok (.invokespecial 11, 3) := by decide +kernel
theorem dX0_init_12 : decode cX0_init 12 = .ok (.putfield 12, 3) := by decide +kernel
theorem dX0_init_15 : decode cX0_init 15 = .ok (.aload_n 0, 1) := by decide +kernel
theorem dX0_init_16 : decode cX0_init 16 = .ok (.iconst (-1), 1) := by decide +kernel
theorem dX0_init_17 : decode cX0_init 17 = .ok (.putfield 18, 3) := by decide +kernel
theorem dX0_init_20 : decode cX0_init 20 = .ok (.aload_n 0, 1) := by decide +kernel
theorem dX0_init_21 : decode cX0_init 21 = .ok (.iload_n 1, 1) := by decide +kernel
theorem dX0_init_22 : decode cX0_init 22 = .ok (.putfield 22, 3) := by decide +kernel
theorem dX0_init_25 : decode cX0_init 25 = .ok (.return_, 1) := by decide +kernel
theorem dX0_copyFrom_0 : decode cX0_copyFrom 0 = .ok (.aload_n 0, 1) := by decide +kernel
theorem dX0_copyFrom_1 : decode cX0_copyFrom 1 = .ok (.getfield 12, 3) := by decide +kernel
theorem dX0_copyFrom_4 : decode cX0_copyFrom 4 = .ok (.aload_n 1, 1) := by decide +kernel
theorem dX0_copyFrom_5 : decode cX0_copyFrom 5 = .ok (.getfield 12, 3) := by decide +kernel
theorem dX0_copyFrom_8 : decode cX0_copyFrom 8 = .ok (.invokevirtual 26, 3) := by decide +kernel
theorem dX0_copyFrom_11 : decode cX0_copyFrom 11 = .ok (.aload_n 0, 1) := by decide +kernel
theorem dX0_copyFrom_12 : decode cX0_copyFrom 12 = .ok (.aload_n 1, 1) := by decide +kernel
theorem dX0_copyFrom_13 : decode cX0_copyFrom 13 = .ok (.getfield 22, 3) := by decide +kernel
theorem dX0_copyFrom_16 : decode cX0_copyFrom 16 = .ok (.putfield 22, 3) := by decide +kernel
theorem dX0_copyFrom_19 : decode cX0_copyFrom 19 = .ok (.aload_n 0, 1) := by decide +kernel
theorem dX0_copyFrom_20 : decode cX0_copyFrom 20 = .ok (.aload_n 1, 1) := by decide +kernel
theorem dX0_copyFrom_21 : decode cX0_copyFrom 21 = .ok (.getfield 18, 3) := by decide +kernel
theorem dX0_copyFrom_24 : decode cX0_copyFrom 24 = .ok (.putfield 18, 3) := by decide +kernel
theorem dX0_copyFrom_27 : decode cX0_copyFrom 27 = .ok (.return_, 1) := by decide +kernel
theorem dX1_init_0 : decode cX1_init 0 = .ok (.aload_n 0, 1) := by decide +kernel
theorem dX1_init_1 : decode cX1_init 1 = .ok (.invokespecial 3, 3) := by decide +kernel
theorem dX1_init_4 : decode cX1_init 4 = .ok (.aload_n 0, 1) := by decide +kernel
theorem dX1_init_5 : decode cX1_init 5 = .ok (.bipush 66, 2) := by decide +kernel
theorem dX1_init_7 : decode cX1_init 7 = .ok (.newarray .int, 2) := by decide +kernel
theorem dX1_init_9 : decode cX1_init 9 = .ok (.putfield 9, 3) := by decide +kernel
theorem dX1_init_12 : decode cX1_init 12 = .ok (.aload_n 0, 1) := by decide +kernel
theorem dX1_init_13 : decode cX1_init 13 = .ok (.bipush 66, 2) := by decide +kernel
theorem dX1_init_15 : decode cX1_init 15 = .ok (.newarray .int, 2) := by decide +kernel
theorem dX1_init_17 : decode cX1_init 17 = .ok (.putfield 15, 3) := by decide +kernel
theorem dX1_init_20 : decode cX1_init 20 = .ok (.aload_n 0, 1) := by decide +kernel
theorem dX1_init_21 : decode cX1_init 21 = .ok (.bipush 66, 2) := by decide +kernel
theorem dX1_init_23 : decode cX1_init 23 = .ok (.newarray .boolean, 2) := by decide +kernel
theorem dX1_init_25 : decode cX1_init 25 = .ok (.putfield 18, 3) := by decide +kernel
theorem dX1_init_28 : decode cX1_init 28 = .ok (.aload_n 0, 1) := by decide +kernel
theorem dX1_init_29 : decode cX1_init 29 = .ok (.iconst 0, 1) := by decide +kernel
theorem dX1_init_30 : decode cX1_init 30 = .ok (.putfield 22, 3) := by decide +kernel
theorem dX1_init_33 : decode cX1_init 33 = .ok (.aload_n 0, 1) := by decide +kernel
theorem dX1_init_34 : decode cX1_init 34 = .ok (.bipush 32, 2) := by decide +kernel
theorem dX1_init_36 : decode cX1_init 36 = .ok (.newarray .boolean, 2) := by decide +kernel
theorem dX1_init_38 : decode cX1_init 38 = .ok (.putfield 26, 3) := by decide +kernel
theorem dX1_init_41 : decode cX1_init 41 = .ok (.aload_n 0, 1) := by decide +kernel
theorem dX1_init_42 : decode cX1_init 42 = .ok (.iload_n 1, 1) := by decide +kernel
theorem dX1_init_43 : decode cX1_init 43 = .ok (.putfield 29, 3) := by decide +kernel
theorem dX1_init_46 : decode cX1_init 46 = .ok (.return_, 1) := by decide +kernel
theorem dX1_isEntry_0 : decode cX1_isEntry 0 = .ok (.iload_n 0, 1) := by decide +kernel
theorem dX1_isEntry_1 : decode cX1_isEntry 1 = .ok (.ifCond .lt 13, 3) := by decide +kernel
theorem dX1_isEntry_4 : decode cX1_isEntry 4 = .ok (.iload_n 0, 1) := by decide +kernel
theorem dX1_isEntry_5 : decode cX1_isEntry 5 = .ok (.bipush 66, 2) := by decide +kernel
theorem dX1_isEntry_7 : decode cX1_isEntry 7 = .ok (.if_icmp .ge 7, 3) := by decide +kernel
theorem dX1_isEntry_10 : decode cX1_isEntry 10 = .ok (.iconst 1, 1) := by decide +kernel
theorem dX1_isEntry_11 : decode cX1_isEntry 11 = .ok (.goto 4, 3) := by decide +kernel
theorem dX1_isEntry_14 : decode cX1_isEntry 14 = .ok (.iconst 0, 1) := by decide +kernel
theorem dX1_isEntry_15 : decode cX1_isEntry 15 = .ok (.ireturn, 1) := by decide +kernel
theorem dX1_firstOf_0 : decode cX1_firstOf 0 = .ok (.iload_n 1, 1) := by decide +kernel
theorem dX1_firstOf_1 : decode cX1_firstOf 1 = .ok (.invokestatic 32, 3) := by decide +kernel
theorem dX1_firstOf_4 : decode cX1_firstOf 4 = .ok (.ifCond .eq 12, 3) := by decide +kernel
theorem dX1_firstOf_7 : decode cX1_firstOf 7 = .ok (.aload_n 0, 1) := by decide +kernel
theorem dX1_firstOf_8 : decode cX1_firstOf 8 = .ok (.getfield 9, 3) := by decide +kernel
theorem dX1_firstOf_11 : decode cX1_firstOf 11 = .ok (.iload_n 1, 1) := by decide +kernel
theorem dX1_firstOf_12 : decode cX1_firstOf 12 = .ok (.iaload, 1) := by decide +kernel
theorem dX1_firstOf_13 : decode cX1_firstOf 13 = .ok (.goto 4, 3) := by decide +kernel
theorem dX1_firstOf_16 : decode cX1_firstOf 16 = .ok (.iconst 0, 1) := by decide +kernel
theorem dX1_firstOf_17 : decode cX1_firstOf 17 = .ok (.ireturn, 1) := by decide +kernel
theorem dX1_blocksOf_0 : decode cX1_blocksOf 0 = .ok (.iload_n 1, 1) := by decide +kernel
theorem dX1_blocksOf_1 : decode cX1_blocksOf 1 = .ok (.invokestatic 32, 3) := by decide +kernel
theorem dX1_blocksOf_4 : decode cX1_blocksOf 4 = .ok (.ifCond .eq 12, 3) := by decide +kernel
theorem dX1_blocksOf_7 : decode cX1_blocksOf 7 = .ok (.aload_n 0, 1) := by decide +kernel
theorem dX1_blocksOf_8 : decode cX1_blocksOf 8 = .ok (.getfield 15, 3) := by decide +kernel
theorem dX1_blocksOf_11 : decode cX1_blocksOf 11 = .ok (.iload_n 1, 1) := by decide +kernel
theorem dX1_blocksOf_12 : decode cX1_blocksOf 12 = .ok (.iaload, 1) := by decide +kernel
theorem dX1_blocksOf_13 : decode cX1_blocksOf 13 = .ok (.goto 4, 3) := by decide +kernel
theorem dX1_blocksOf_16 : decode cX1_blocksOf 16 = .ok (.iconst 0, 1) := by decide +kernel
theorem dX1_blocksOf_17 : decode cX1_blocksOf 17 = .ok (.ireturn, 1) := by decide +kernel
theorem dX1_isAllocation_0 : decode cX1_isAllocation 0 = .ok (.iload_n 1, 1) := by decide +kernel
theorem dX1_isAllocation_1 : decode cX1_isAllocation 1 = .ok (.invokestatic 32, 3) := by decide +kernel
theorem dX1_isAllocation_4 : decode cX1_isAllocation 4 = .ok (.ifCond .eq 16, 3) := by decide +kernel
theorem dX1_isAllocation_7 : decode cX1_isAllocation 7 = .ok (.aload_n 0, 1) := by decide +kernel
theorem dX1_isAllocation_8 : decode cX1_isAllocation 8 = .ok (.getfield 18, 3) := by decide +kernel
theorem dX1_isAllocation_11 : decode cX1_isAllocation 11 = .ok (.iload_n 1, 1) := by decide +kernel
theorem dX1_isAllocation_12 : decode cX1_isAllocation 12 = .ok (.baload, 1) := by decide +kernel
theorem dX1_isAllocation_13 : decode cX1_isAllocation 13 = .ok (.ifCond .eq 7, 3) := by decide +kernel
theorem dX1_isAllocation_16 : decode cX1_isAllocation 16 = .ok (.iconst 1, 1) := by decide +kernel
theorem dX1_isAllocation_17 : decode cX1_isAllocation 17 = .ok (.goto 4, 3) := by decide +kernel
theorem dX1_isAllocation_20 : decode cX1_isAllocation 20 = .ok (.iconst 0, 1) := by decide +kernel
theorem dX1_isAllocation_21 : decode cX1_isAllocation 21 = .ok (.ireturn, 1) := by decide +kernel
theorem dX1_record_0 : decode cX1_record 0 = .ok (.aload_n 0, 1) := by decide +kernel
theorem dX1_record_1 : decode cX1_record 1 = .ok (.aload_n 1, 1) := by decide +kernel
theorem dX1_record_2 : decode cX1_record 2 = .ok (.aload_n 2, 1) := by decide +kernel
theorem dX1_record_3 : decode cX1_record 3 = .ok (.invokevirtual 36, 3) := by decide +kernel
theorem dX1_record_6 : decode cX1_record 6 = .ok (.aload_n 0, 1) := by decide +kernel
theorem dX1_record_7 : decode cX1_record 7 = .ok (.iconst 1, 1) := by decide +kernel
theorem dX1_record_8 : decode cX1_record 8 = .ok (.invokevirtual 40, 3) := by decide +kernel
theorem dX1_record_11 : decode cX1_record 11 = .ok (.aload_n 0, 1) := by decide +kernel
theorem dX1_record_12 : decode cX1_record 12 = .ok (.aload_n 2, 1) := by decide +kernel
theorem dX1_record_13 : decode cX1_record 13 = .ok (.aload_n 1, 1) := by decide +kernel
theorem dX1_record_14 : decode cX1_record 14 = .ok (.invokevirtual 36, 3) := by decide +kernel
theorem dX1_record_17 : decode cX1_record 17 = .ok (.aload_n 0, 1) := by decide +kernel
theorem dX1_record_18 : decode cX1_record 18 = .ok (.iconst 0, 1) := by decide +kernel
theorem dX1_record_19 : decode cX1_record 19 = .ok (.invokevirtual 40, 3) := by decide +kernel
theorem dX1_record_22 : decode cX1_record 22 = .ok (.aload_n 0, 1) := by decide +kernel
theorem dX1_record_23 : decode cX1_record 23 = .ok (.aload_n 1, 1) := by decide +kernel
theorem dX1_record_24 : decode cX1_record 24 = .ok (.invokevirtual 44, 3) := by decide +kernel
theorem dX1_record_27 : decode cX1_record 27 = .ok (.aload_n 0, 1) := by decide +kernel
theorem dX1_record_28 : decode cX1_record 28 = .ok (.getfield 22, 3) := by decide +kernel
theorem dX1_record_31 : decode cX1_record 31 = .ok (.iconst 2, 1) := by decide +kernel
theorem dX1_record_32 : decode cX1_record 32 = .ok (.aload_n 0, 1) := by decide +kernel
theorem dX1_record_33 : decode cX1_record 33 = .ok (.invokevirtual 48, 3) := by decide +kernel
theorem dX1_record_36 : decode cX1_record 36 = .ok (.imul, 1) := by decide +kernel
theorem dX1_record_37 : decode cX1_record 37 = .ok (.iconst 2, 1) := by decide +kernel
theorem dX1_record_38 : decode cX1_record 38 = .ok (.iadd, 1) := by decide +kernel
theorem dX1_record_39 : decode cX1_record 39 = .ok (.if_icmp .gt 5, 3) := by decide +kernel
theorem dX1_record_42 : decode cX1_record 42 = .ok (.iconst 0, 1) := by decide +kernel
theorem dX1_record_43 : decode cX1_record 43 = .ok (.ireturn, 1) := by decide +kernel
theorem dX1_record_44 : decode cX1_record 44 = .ok (.aload_n 0, 1) := by decide +kernel
theorem dX1_record_45 : decode cX1_record 45 = .ok (.iconst 0, 1) := by decide +kernel
theorem dX1_record_46 : decode cX1_record 46 = .ok (.putfield 22, 3) := by decide +kernel
theorem dX1_record_49 : decode cX1_record 49 = .ok (.aload_n 0, 1) := by decide +kernel
theorem dX1_record_50 : decode cX1_record 50 = .ok (.iconst 1, 1) := by decide +kernel
theorem dX1_record_51 : decode cX1_record 51 = .ok (.invokevirtual 40, 3) := by decide +kernel
theorem dX1_record_54 : decode cX1_record 54 = .ok (.iconst 1, 1) := by decide +kernel
theorem dX1_record_55 : decode cX1_record 55 = .ok (.ireturn, 1) := by decide +kernel
theorem dX1_markChanges_0 : decode cX1_markChanges 0 = .ok (.iconst 0, 1) := by decide +kernel
theorem dX1_markChanges_1 : decode cX1_markChanges 1 = .ok (.istore_n 3, 1) := by decide +kernel
theorem dX1_markChanges_2 : decode cX1_markChanges 2 = .ok (.iload_n 3, 1) := by decide +kernel
theorem dX1_markChanges_3 : decode cX1_markChanges 3 = .ok (.bipush 32, 2) := by decide +kernel
theorem dX1_markChanges_5 : decode cX1_markChanges 5 = .ok (.if_icmp .ge 46, 3) := by decide +kernel
theorem dX1_markChanges_8 : decode cX1_markChanges 8 = .ok (.aload_n 0, 1) := by decide +kernel
theorem dX1_markChanges_9 : decode cX1_markChanges 9 = .ok (.getfield 26, 3) := by decide +kernel
theorem dX1_markChanges_12 : decode cX1_markChanges 12 = .ok (.iload_n 3, 1) := by decide +kernel
theorem dX1_markChanges_13 : decode cX1_markChanges 13 = .ok (.aload_n 1, 1) := by decide +kernel
theorem dX1_markChanges_14 : decode cX1_markChanges 14 = .ok (.aload_n 0, 1) := by decide +kernel
theorem dX1_markChanges_15 : decode cX1_markChanges 15 = .ok (.getfield 29, 3) := by decide +kernel
theorem dX1_markChanges_18 : decode cX1_markChanges 18 = .ok (.iload_n 3, 1) := by decide +kernel
theorem dX1_markChanges_19 : decode cX1_markChanges 19 = .ok (.iadd, 1) := by decide +kernel
theorem dX1_markChanges_20 : decode cX1_markChanges 20 = .ok (.invokevirtual 52, 3) := by decide +kernel
theorem dX1_markChanges_23 : decode cX1_markChanges 23 = .ok (.ifCond .eq 20, 3) := by decide +kernel
theorem dX1_markChanges_26 : decode cX1_markChanges 26 = .ok (.aload_n 2, 1) := by decide +kernel
theorem dX1_markChanges_27 : decode cX1_markChanges 27 = .ok (.aload_n 0, 1) := by decide +kernel
theorem dX1_markChanges_28 : decode cX1_markChanges 28 = .ok (.getfield 29, 3) := by decide +kernel
theorem dX1_markChanges_31 : decode cX1_markChanges 31 = .ok (.iload_n 3, 1) := by decide +kernel
theorem dX1_markChanges_32 : decode cX1_markChanges 32 = .ok (.iadd, 1) := by decide +kernel
theorem dX1_markChanges_33 : decode cX1_markChanges 33 = .ok (.invokevirtual 52, 3) := by decide +kernel
theorem dX1_markChanges_36 : decode cX1_markChanges 36 = .ok (.ifCond .ne 7, 3) := by decide +kernel
theorem dX1_markChanges_39 : decode cX1_markChanges 39 = .ok (.iconst 1, 1) := by decide +kernel
theorem dX1_markChanges_40 : decode cX1_markChanges 40 = .ok (.goto 4, 3) := by decide +kernel
theorem dX1_markChanges_43 : decode cX1_markChanges 43 = .ok (.iconst 0, 1) := by decide +kernel
theorem dX1_markChanges_44 : decode cX1_markChanges 44 = .ok (.bastore, 1) := by decide +kernel
theorem dX1_markChanges_45 : decode cX1_markChanges 45 = .ok (.iinc 3 1, 3) := by decide +kernel
theorem dX1_markChanges_48 : decode cX1_markChanges 48 = .ok (.goto (-46), 3) := by decide +kernel
theorem dX1_markChanges_51 : decode cX1_markChanges 51 = .ok (.return_, 1) := by decide +kernel
theorem dX1_markAllocated_0 : decode cX1_markAllocated 0 = .ok (.iconst 0, 1) := by decide +kernel
theorem dX1_markAllocated_1 : decode cX1_markAllocated 1 = .ok (.istore_n 2, 1) := by decide +kernel
theorem dX1_markAllocated_2 : decode cX1_markAllocated 2 = .ok (.iload_n 2, 1) := by decide +kernel
theorem dX1_markAllocated_3 : decode cX1_markAllocated 3 = .ok (.bipush 32, 2) := by decide +kernel
theorem dX1_markAllocated_5 : decode cX1_markAllocated 5 = .ok (.if_icmp .ge 25, 3) := by decide +kernel
theorem dX1_markAllocated_8 : decode cX1_markAllocated 8 = .ok (.aload_n 0, 1) := by decide +kernel
theorem dX1_markAllocated_9 : decode cX1_markAllocated 9 = .ok (.getfield 26, 3) := by decide +kernel
theorem dX1_markAllocated_12 : decode cX1_markAllocated 12 = .ok (.iload_n 2, 1) := by decide +kernel
theorem dX1_markAllocated_13 : decode cX1_markAllocated 13 = .ok (.aload_n 1, 1) := by decide +kernel
theorem dX1_markAllocated_14 : decode cX1_markAllocated 14 = .ok (.aload_n 0, 1) := by decide +kernel
theorem dX1_markAllocated_15 : decode cX1_markAllocated 15 = .ok (.getfield 29, 3) := by decide +kernel
theorem dX1_markAllocated_18 : decode cX1_markAllocated 18 = .ok (.iload_n 2, 1) := by decide +kernel
theorem dX1_markAllocated_19 : decode cX1_markAllocated 19 = .ok (.iadd, 1) := by decide +kernel
theorem dX1_markAllocated_20 : decode cX1_markAllocated 20 = .ok (.invokevirtual 52, 3) := by decide +kernel
theorem dX1_markAllocated_23 : decode cX1_markAllocated 23 = .ok (.bastore, 1) := by decide +kernel
theorem dX1_markAllocated_24 : decode cX1_markAllocated 24 = .ok (.iinc 2 1, 3) := by decide +kernel
theorem dX1_markAllocated_27 : decode cX1_markAllocated 27 = .ok (.goto (-25), 3) := by decide +kernel
theorem dX1_markAllocated_30 : decode cX1_markAllocated 30 = .ok (.return_, 1) := by decide +kernel
theorem dX1_countMarkedRuns_0 : decode cX1_countMarkedRuns 0 = .ok (.iconst 0, 1) := by decide +kernel
theorem dX1_countMarkedRuns_1 : decode cX1_countMarkedRuns 1 = .ok (.istore_n 1, 1) := by decide +kernel
theorem dX1_countMarkedRuns_2 : decode cX1_countMarkedRuns 2 = .ok (.iconst 0, 1) := by decide +kernel
theorem dX1_countMarkedRuns_3 : decode cX1_countMarkedRuns 3 = .ok (.istore_n 2, 1) := by decide +kernel
theorem dX1_countMarkedRuns_4 : decode cX1_countMarkedRuns 4 = .ok (.iload_n 2, 1) := by decide +kernel
theorem dX1_countMarkedRuns_5 : decode cX1_countMarkedRuns 5 = .ok (.bipush 32, 2) := by decide +kernel
theorem dX1_countMarkedRuns_7 : decode cX1_countMarkedRuns 7 = .ok (.if_icmp .ge 36, 3) := by decide +kernel
theorem dX1_countMarkedRuns_10 : decode cX1_countMarkedRuns 10 = .ok (.aload_n 0, 1) := by decide +kernel
theorem dX1_countMarkedRuns_11 : decode cX1_countMarkedRuns 11 = .ok (.getfield 26, 3) := by decide +kernel
theorem dX1_countMarkedRuns_14 : decode cX1_countMarkedRuns 14 = .ok (.iload_n 2, 1) := by decide +kernel
theorem dX1_countMarkedRuns_15 : decode cX1_countMarkedRuns 15 = .ok (.baload, 1) := by decide +kernel
theorem dX1_countMarkedRuns_16 : decode cX1_countMarkedRuns 16 = .ok (.ifCond .eq 21, 3) := by decide +kernel
theorem dX1_countMarkedRuns_19 : decode cX1_countMarkedRuns 19 = .ok (.iload_n 2, 1) := by decide +kernel
theorem dX1_countMarkedRuns_20 : decode cX1_countMarkedRuns 20 = .ok (.ifCond .eq 14, 3) := by decide +kernel
theorem dX1_countMarkedRuns_23 : decode cX1_countMarkedRuns 23 = .ok (.aload_n 0, 1) := by decide +kernel
theorem dX1_countMarkedRuns_24 : decode cX1_countMarkedRuns 24 = .ok (.getfield 26, 3) := by decide +kernel
theorem dX1_countMarkedRuns_27 : decode cX1_countMarkedRuns 27 = .ok (.iload_n 2, 1) := by decide +kernel
theorem dX1_countMarkedRuns_28 : decode cX1_countMarkedRuns 28 = .ok (.iconst 1, 1) := by decide +kernel
theorem dX1_countMarkedRuns_29 : decode cX1_countMarkedRuns 29 = .ok (.isub, 1) := by decide +kernel
theorem dX1_countMarkedRuns_30 : decode cX1_countMarkedRuns 30 = .ok (.baload, 1) := by decide +kernel
theorem dX1_countMarkedRuns_31 : decode cX1_countMarkedRuns 31 = .ok (.ifCond .ne 6, 3) := by decide +kernel
theorem dX1_countMarkedRuns_34 : decode cX1_countMarkedRuns 34 = .ok (.iinc 1 1, 3) := by decide +kernel
theorem dX1_countMarkedRuns_37 : decode cX1_countMarkedRuns 37 = .ok (.iinc 2 1, 3) := by decide +kernel
theorem dX1_countMarkedRuns_40 : decode cX1_countMarkedRuns 40 = .ok (.goto (-36), 3) := by decide +kernel
theorem dX1_countMarkedRuns_43 : decode cX1_countMarkedRuns 43 = .ok (.iload_n 1, 1) := by decide +kernel
theorem dX1_countMarkedRuns_44 : decode cX1_countMarkedRuns 44 = .ok (.ireturn, 1) := by decide +kernel
theorem dX1_appendMarkedRuns_0 : decode cX1_appendMarkedRuns 0 = .ok (.iconst 0, 1) := by decide +kernel
theorem dX1_appendMarkedRuns_1 : decode cX1_appendMarkedRuns 1 = .ok (.istore_n 2, 1) := by decide +kernel
theorem dX1_appendMarkedRuns_2 : decode cX1_appendMarkedRuns 2 = .ok (.iconst 0, 1) := by decide +kernel
theorem dX1_appendMarkedRuns_3 : decode cX1_appendMarkedRuns 3 = .ok (.istore_n 3, 1) := by decide +kernel
theorem dX1_appendMarkedRuns_4 : decode cX1_appendMarkedRuns 4 = .ok (.iload_n 3, 1) := by decide +kernel
theorem dX1_appendMarkedRuns_5 : decode cX1_appendMarkedRuns 5 = .ok (.bipush 32, 2) := by decide +kernel
theorem dX1_appendMarkedRuns_7 : decode cX1_appendMarkedRuns 7 = .ok (.if_icmp .ge 40, 3) := by decide +kernel
theorem dX1_appendMarkedRuns_10 : decode cX1_appendMarkedRuns 10 = .ok (.aload_n 0, 1) := by decide +kernel
theorem dX1_appendMarkedRuns_11 : decode cX1_appendMarkedRuns 11 = .ok (.getfield 26, 3) := by decide +kernel
theorem dX1_appendMarkedRuns_14 : decode cX1_appendMarkedRuns 14 = .ok (.iload_n 3, 1) := by decide +kernel
theorem dX1_appendMarkedRuns_15 : decode cX1_appendMarkedRuns 15 = .ok (.baload, 1) := by decide +kernel
theorem dX1_appendMarkedRuns_16 : decode cX1_appendMarkedRuns 16 = .ok (.ifCond .eq 9, 3) := by decide +kernel
theorem dX1_appendMarkedRuns_19 : decode cX1_appendMarkedRuns 19 = .ok (.iinc 2 1, 3) := by decide +kernel
theorem dX1_appendMarkedRuns_22 : decode cX1_appendMarkedRuns 22 = .ok (.goto 19, 3) := by decide +kernel
theorem dX1_appendMarkedRuns_25 : decode cX1_appendMarkedRuns 25 = .ok (.aload_n 0, 1) := by decide +kernel
theorem dX1_appendMarkedRuns_26 : decode cX1_appendMarkedRuns 26 = .ok (.aload_n 0, 1) := by decide +kernel
theorem dX1_appendMarkedRuns_27 : decode cX1_appendMarkedRuns 27 = .ok (.getfield 29, 3) := by decide +kernel
theorem dX1_appendMarkedRuns_30 : decode cX1_appendMarkedRuns 30 = .ok (.iload_n 3, 1) := by decide +kernel
theorem dX1_appendMarkedRuns_31 : decode cX1_appendMarkedRuns 31 = .ok (.iadd, 1) := by decide +kernel
theorem dX1_appendMarkedRuns_32 : decode cX1_appendMarkedRuns 32 = .ok (.iload_n 2, 1) := by decide +kernel
theorem dX1_appendMarkedRuns_33 : decode cX1_appendMarkedRuns 33 = .ok (.isub, 1) := by decide +kernel
theorem dX1_appendMarkedRuns_34 : decode cX1_appendMarkedRuns 34 = .ok (.iload_n 2, 1) := by decide +kernel
theorem dX1_appendMarkedRuns_35 : decode cX1_appendMarkedRuns 35 = .ok (.iload_n 1, 1) := by decide +kernel
theorem dX1_appendMarkedRuns_36 : decode cX1_appendMarkedRuns 36 = .ok (.invokevirtual 57, 3) := by decide +kernel
theorem dX1_appendMarkedRuns_39 : decode cX1_appendMarkedRuns 39 = .ok (.iconst 0, 1) := by decide +kernel
theorem dX1_appendMarkedRuns_40 : decode cX1_appendMarkedRuns 40 = .ok (.istore_n 2, 1) := by decide +kernel
theorem dX1_appendMarkedRuns_41 : decode cX1_appendMarkedRuns 41 = .ok (.iinc 3 1, 3) := by decide +kernel
theorem dX1_appendMarkedRuns_44 : decode cX1_appendMarkedRuns 44 = .ok (.goto (-40), 3) := by decide +kernel
theorem dX1_appendMarkedRuns_47 : decode cX1_appendMarkedRuns 47 = .ok (.aload_n 0, 1) := by decide +kernel
theorem dX1_appendMarkedRuns_48 : decode cX1_appendMarkedRuns 48 = .ok (.aload_n 0, 1) := by decide +kernel
theorem dX1_appendMarkedRuns_49 : decode cX1_appendMarkedRuns 49 = .ok (.getfield 29, 3) := by decide +kernel
theorem dX1_appendMarkedRuns_52 : decode cX1_appendMarkedRuns 52 = .ok (.bipush 32, 2) := by decide +kernel
theorem dX1_appendMarkedRuns_54 : decode cX1_appendMarkedRuns 54 = .ok (.iadd, 1) := by decide +kernel
theorem dX1_appendMarkedRuns_55 : decode cX1_appendMarkedRuns 55 = .ok (.iload_n 2, 1) := by decide +kernel
theorem dX1_appendMarkedRuns_56 : decode cX1_appendMarkedRuns 56 = .ok (.isub, 1) := by decide +kernel
theorem dX1_appendMarkedRuns_57 : decode cX1_appendMarkedRuns 57 = .ok (.iload_n 2, 1) := by decide +kernel
theorem dX1_appendMarkedRuns_58 : decode cX1_appendMarkedRuns 58 = .ok (.iload_n 1, 1) := by decide +kernel
theorem dX1_appendMarkedRuns_59 : decode cX1_appendMarkedRuns 59 = .ok (.invokevirtual 57, 3) := by decide +kernel
theorem dX1_appendMarkedRuns_62 : decode cX1_appendMarkedRuns 62 = .ok (.return_, 1) := by decide +kernel
theorem dX1_append_0 : decode cX1_append 0 = .ok (.iload_n 2, 1) := by decide +kernel
theorem dX1_append_1 : decode cX1_append 1 = .ok (.ifCond .le 53, 3) := by decide +kernel
theorem dX1_append_4 : decode cX1_append 4 = .ok (.aload_n 0, 1) := by decide +kernel
theorem dX1_append_5 : decode cX1_append 5 = .ok (.getfield 22, 3) := by decide +kernel
theorem dX1_append_8 : decode cX1_append 8 = .ok (.invokestatic 32, 3) := by decide +kernel
theorem dX1_append_11 : decode cX1_append 11 = .ok (.ifCond .eq 43, 3) := by decide +kernel
theorem dX1_append_14 : decode cX1_append 14 = .ok (.aload_n 0, 1) := by decide +kernel
theorem dX1_append_15 : decode cX1_append 15 = .ok (.getfield 9, 3) := by decide +kernel
theorem dX1_append_18 : decode cX1_append 18 = .ok (.aload_n 0, 1) := by decide +kernel
theorem dX1_append_19 : decode cX1_append 19 = .ok (.getfield 22, 3) := by decide +kernel
theorem dX1_append_22 : decode cX1_append 22 = .ok (.iload_n 1, 1) := by decide +kernel
theorem dX1_append_23 : decode cX1_append 23 = .ok (.iastore, 1) := by decide +kernel
theorem dX1_append_24 : decode cX1_append 24 = .ok (.aload_n 0, 1) := by decide +kernel
theorem dX1_append_25 : decode cX1_append 25 = .ok (.getfield 15, 3) := by decide +kernel
theorem dX1_append_28 : decode cX1_append 28 = .ok (.aload_n 0, 1) := by decide +kernel
theorem dX1_append_29 : decode cX1_append 29 = .ok (.getfield 22, 3) := by decide +kernel
theorem dX1_append_32 : decode cX1_append 32 = .ok (.iload_n 2, 1) := by decide +kernel
theorem dX1_append_33 : decode cX1_append 33 = .ok (.iastore, 1) := by decide +kernel
theorem dX1_append_34 : decode cX1_append 34 = .ok (.aload_n 0, 1) := by decide +kernel
theorem dX1_append_35 : decode cX1_append 35 = .ok (.getfield 18, 3) := by decide +kernel
theorem dX1_append_38 : decode cX1_append 38 = .ok (.aload_n 0, 1) := by decide +kernel
theorem dX1_append_39 : decode cX1_append 39 = .ok (.getfield 22, 3) := by decide +kernel
theorem dX1_append_42 : decode cX1_append 42 = .ok (.iload_n 3, 1) := by decide +kernel
theorem dX1_append_43 : decode cX1_append 43 = .ok (.bastore, 1) := by decide +kernel
theorem dX1_append_44 : decode cX1_append 44 = .ok (.aload_n 0, 1) := by decide +kernel
theorem dX1_append_45 : decode cX1_append 45 = .ok (.dup, 1) := by decide +kernel
theorem dX1_append_46 : decode cX1_append 46 = .ok (.getfield 22, 3) := by decide +kernel
theorem dX1_append_49 : decode cX1_append 49 = .ok (.iconst 1, 1) := by decide +kernel
theorem dX1_append_50 : decode cX1_append 50 = .ok (.iadd, 1) := by decide +kernel
theorem dX1_append_51 : decode cX1_append 51 = .ok (.putfield 22, 3) := by decide +kernel
theorem dX1_append_54 : decode cX1_append 54 = .ok (.return_, 1) := by decide +kernel
theorem dX1_countReplayed_0 : decode cX1_countReplayed 0 = .ok (.iconst 0, 1) := by decide +kernel
theorem dX1_countReplayed_1 : decode cX1_countReplayed 1 = .ok (.istore_n 1, 1) := by decide +kernel
theorem dX1_countReplayed_2 : decode cX1_countReplayed 2 = .ok (.iload_n 1, 1) := by decide +kernel
theorem dX1_countReplayed_3 : decode cX1_countReplayed 3 = .ok (.bipush 32, 2) := by decide +kernel
theorem dX1_countReplayed_5 : decode cX1_countReplayed 5 = .ok (.if_icmp .ge 16, 3) := by decide +kernel
theorem dX1_countReplayed_8 : decode cX1_countReplayed 8 = .ok (.aload_n 0, 1) := by decide +kernel
theorem dX1_countReplayed_9 : decode cX1_countReplayed 9 = .ok (.getfield 26, 3) := by decide +kernel
theorem dX1_countReplayed_12 : decode cX1_countReplayed 12 = .ok (.iload_n 1, 1) := by decide +kernel
theorem dX1_countReplayed_13 : decode cX1_countReplayed 13 = .ok (.iconst 0, 1) := by decide +kernel
theorem dX1_countReplayed_14 : decode cX1_countReplayed 14 = .ok (.bastore, 1) := by decide +kernel
theorem dX1_countReplayed_15 : decode cX1_countReplayed 15 = .ok (.iinc 1 1, 3) := by decide +kernel
theorem dX1_countReplayed_18 : decode cX1_countReplayed 18 = .ok (.goto (-16), 3) := by decide +kernel
theorem dX1_countReplayed_21 : decode cX1_countReplayed 21 = .ok (.iconst 0, 1) := by decide +kernel
theorem dX1_countReplayed_22 : decode cX1_countReplayed 22 = .ok (.istore_n 1, 1) := by decide +kernel
theorem dX1_countReplayed_23 : decode cX1_countReplayed 23 = .ok (.iload_n 1, 1) := by decide +kernel
theorem dX1_countReplayed_24 : decode cX1_countReplayed 24 = .ok (.aload_n 0, 1) := by decide +kernel
theorem dX1_countReplayed_25 : decode cX1_countReplayed 25 = .ok (.getfield 22, 3) := by decide +kernel
theorem dX1_countReplayed_28 : decode cX1_countReplayed 28 = .ok (.if_icmp .ge 14, 3) := by decide +kernel
theorem dX1_countReplayed_31 : decode cX1_countReplayed 31 = .ok (.aload_n 0, 1) := by decide +kernel
theorem dX1_countReplayed_32 : decode cX1_countReplayed 32 = .ok (.iload_n 1, 1) := by decide +kernel
theorem dX1_countReplayed_33 : decode cX1_countReplayed 33 = .ok (.invokevirtual 61, 3) := by decide +kernel
theorem dX1_countReplayed_36 : decode cX1_countReplayed 36 = .ok (.iinc 1 1, 3) := by decide +kernel
theorem dX1_countReplayed_39 : decode cX1_countReplayed 39 = .ok (.goto (-16), 3) := by decide +kernel
theorem dX1_countReplayed_42 : decode cX1_countReplayed 42 = .ok (.iconst 0, 1) := by decide +kernel
theorem dX1_countReplayed_43 : decode cX1_countReplayed 43 = .ok (.istore_n 1, 1) := by decide +kernel
theorem dX1_countReplayed_44 : decode cX1_countReplayed 44 = .ok (.iconst 0, 1) := by decide +kernel
theorem dX1_countReplayed_45 : decode cX1_countReplayed 45 = .ok (.istore_n 2, 1) := by decide +kernel
theorem dX1_countReplayed_46 : decode cX1_countReplayed 46 = .ok (.iload_n 2, 1) := by decide +kernel
theorem dX1_countReplayed_47 : decode cX1_countReplayed 47 = .ok (.bipush 32, 2) := by decide +kernel
theorem dX1_countReplayed_49 : decode cX1_countReplayed 49 = .ok (.if_icmp .ge 21, 3) := by decide +kernel
theorem dX1_countReplayed_52 : decode cX1_countReplayed 52 = .ok (.aload_n 0, 1) := by decide +kernel
theorem dX1_countReplayed_53 : decode cX1_countReplayed 53 = .ok (.getfield 26, 3) := by decide +kernel
theorem dX1_countReplayed_56 : decode cX1_countReplayed 56 = .ok (.iload_n 2, 1) := by decide +kernel
theorem dX1_countReplayed_57 : decode cX1_countReplayed 57 = .ok (.baload, 1) := by decide +kernel
theorem dX1_countReplayed_58 : decode cX1_countReplayed 58 = .ok (.ifCond .eq 6, 3) := by decide +kernel
theorem dX1_countReplayed_61 : decode cX1_countReplayed 61 = .ok (.iinc 1 1, 3) := by decide +kernel
theorem dX1_countReplayed_64 : decode cX1_countReplayed 64 = .ok (.iinc 2 1, 3) := by decide +kernel
theorem dX1_countReplayed_67 : decode cX1_countReplayed 67 = .ok (.goto (-21), 3) := by decide +kernel
theorem dX1_countReplayed_70 : decode cX1_countReplayed 70 = .ok (.iload_n 1, 1) := by decide +kernel
theorem dX1_countReplayed_71 : decode cX1_countReplayed 71 = .ok (.ireturn, 1) := by decide +kernel
theorem dX1_replayEntry_0 : decode cX1_replayEntry 0 = .ok (.aload_n 0, 1) := by decide +kernel
theorem dX1_replayEntry_1 : decode cX1_replayEntry 1 = .ok (.iload_n 1, 1) := by decide +kernel
theorem dX1_replayEntry_2 : decode cX1_replayEntry 2 = .ok (.invokevirtual 65, 3) := by decide +kernel
theorem dX1_replayEntry_5 : decode cX1_replayEntry 5 = .ok (.aload_n 0, 1) := by decide +kernel
theorem dX1_replayEntry_6 : decode cX1_replayEntry 6 = .ok (.getfield 29, 3) := by decide +kernel
theorem dX1_replayEntry_9 : decode cX1_replayEntry 9 = .ok (.isub, 1) := by decide +kernel
theorem dX1_replayEntry_10 : decode cX1_replayEntry 10 = .ok (.istore_n 2, 1) := by decide +kernel
theorem dX1_replayEntry_11 : decode cX1_replayEntry 11 = .ok (.iload_n 2, 1) := by decide +kernel
theorem dX1_replayEntry_12 : decode cX1_replayEntry 12 = .ok (.aload_n 0, 1) := by decide +kernel
theorem dX1_replayEntry_13 : decode cX1_replayEntry 13 = .ok (.iload_n 1, 1) := by decide +kernel
theorem dX1_replayEntry_14 : decode cX1_replayEntry 14 = .ok (.invokevirtual 69, 3) := by decide +kernel
theorem dX1_replayEntry_17 : decode cX1_replayEntry 17 = .ok (.iadd, 1) := by decide +kernel
theorem dX1_replayEntry_18 : decode cX1_replayEntry 18 = .ok (.istore_n 3, 1) := by decide +kernel
theorem dX1_replayEntry_19 : decode cX1_replayEntry 19 = .ok (.iload_n 2, 1) := by decide +kernel
theorem dX1_replayEntry_20 : decode cX1_replayEntry 20 = .ok (.istore 4, 2) := by decide +kernel
theorem dX1_replayEntry_22 : decode cX1_replayEntry 22 = .ok (.iload 4, 2) := by decide +kernel
theorem dX1_replayEntry_24 : decode cX1_replayEntry 24 = .ok (.iload_n 3, 1) := by decide +kernel
theorem dX1_replayEntry_25 : decode cX1_replayEntry 25 = .ok (.if_icmp .ge 33, 3) := by decide +kernel
theorem dX1_replayEntry_28 : decode cX1_replayEntry 28 = .ok (.iload 4, 2) := by decide +kernel
theorem dX1_replayEntry_30 : decode cX1_replayEntry 30 = .ok (.ifCond .lt 22, 3) := by decide +kernel
theorem dX1_replayEntry_33 : decode cX1_replayEntry 33 = .ok (.iload 4, 2) := by decide +kernel
theorem dX1_replayEntry_35 : decode cX1_replayEntry 35 = .ok (.bipush 32, 2) := by decide +kernel
theorem dX1_replayEntry_37 : decode cX1_replayEntry 37 = .ok (.if_icmp .ge 15, 3) := by decide +kernel
theorem dX1_replayEntry_40 : decode cX1_replayEntry 40 = .ok (.aload_n 0, 1) := by decide +kernel
theorem dX1_replayEntry_41 : decode cX1_replayEntry 41 = .ok (.getfield 26, 3) := by decide +kernel
theorem dX1_replayEntry_44 : decode cX1_replayEntry 44 = .ok (.iload 4, 2) := by decide +kernel
theorem dX1_replayEntry_46 : decode cX1_replayEntry 46 = .ok (.aload_n 0, 1) := by decide +kernel
theorem dX1_replayEntry_47 : decode cX1_replayEntry 47 = .ok (.iload_n 1, 1) := by decide +kernel
theorem dX1_replayEntry_48 : decode cX1_replayEntry 48 = .ok (.invokevirtual 72, 3) := by decide +kernel
theorem dX1_replayEntry_51 : decode cX1_replayEntry 51 = .ok (.bastore, 1) := by decide +kernel
theorem dX1_replayEntry_52 : decode cX1_replayEntry 52 = .ok (.iinc 4 1, 3) := by decide +kernel
theorem dX1_replayEntry_55 : decode cX1_replayEntry 55 = .ok (.goto (-33), 3) := by decide +kernel
theorem dX1_replayEntry_58 : decode cX1_replayEntry 58 = .ok (.return_, 1) := by decide +kernel
theorem dX1_copyFrom_0 : decode cX1_copyFrom 0 = .ok (.aload_n 0, 1) := by decide +kernel
theorem dX1_copyFrom_1 : decode cX1_copyFrom 1 = .ok (.aload_n 1, 1) := by decide +kernel
theorem dX1_copyFrom_2 : decode cX1_copyFrom 2 = .ok (.getfield 22, 3) := by decide +kernel
theorem dX1_copyFrom_5 : decode cX1_copyFrom 5 = .ok (.putfield 22, 3) := by decide +kernel
theorem dX1_copyFrom_8 : decode cX1_copyFrom 8 = .ok (.iconst 0, 1) := by decide +kernel
theorem dX1_copyFrom_9 : decode cX1_copyFrom 9 = .ok (.istore_n 2, 1) := by decide +kernel
theorem dX1_copyFrom_10 : decode cX1_copyFrom 10 = .ok (.iload_n 2, 1) := by decide +kernel
theorem dX1_copyFrom_11 : decode cX1_copyFrom 11 = .ok (.aload_n 0, 1) := by decide +kernel
theorem dX1_copyFrom_12 : decode cX1_copyFrom 12 = .ok (.getfield 22, 3) := by decide +kernel
theorem dX1_copyFrom_15 : decode cX1_copyFrom 15 = .ok (.if_icmp .ge 51, 3) := by decide +kernel
theorem dX1_copyFrom_18 : decode cX1_copyFrom 18 = .ok (.iload_n 2, 1) := by decide +kernel
theorem dX1_copyFrom_19 : decode cX1_copyFrom 19 = .ok (.bipush 66, 2) := by decide +kernel
theorem dX1_copyFrom_21 : decode cX1_copyFrom 21 = .ok (.if_icmp .ge 45, 3) := by decide +kernel
theorem dX1_copyFrom_24 : decode cX1_copyFrom 24 = .ok (.aload_n 0, 1) := by decide +kernel
theorem dX1_copyFrom_25 : decode cX1_copyFrom 25 = .ok (.getfield 9, 3) := by decide +kernel
theorem dX1_copyFrom_28 : decode cX1_copyFrom 28 = .ok (.iload_n 2, 1) := by decide +kernel
theorem dX1_copyFrom_29 : decode cX1_copyFrom 29 = .ok (.aload_n 1, 1) := by decide +kernel
theorem dX1_copyFrom_30 : decode cX1_copyFrom 30 = .ok (.getfield 9, 3) := by decide +kernel
theorem dX1_copyFrom_33 : decode cX1_copyFrom 33 = .ok (.iload_n 2, 1) := by decide +kernel
theorem dX1_copyFrom_34 : decode cX1_copyFrom 34 = .ok (.iaload, 1) := by decide +kernel
theorem dX1_copyFrom_35 : decode cX1_copyFrom 35 = .ok (.iastore, 1) := by decide +kernel
theorem dX1_copyFrom_36 : decode cX1_copyFrom 36 = .ok (.aload_n 0, 1) := by decide +kernel
theorem dX1_copyFrom_37 : decode cX1_copyFrom 37 = .ok (.getfield 15, 3) := by decide +kernel
theorem dX1_copyFrom_40 : decode cX1_copyFrom 40 = .ok (.iload_n 2, 1) := by decide +kernel
theorem dX1_copyFrom_41 : decode cX1_copyFrom 41 = .ok (.aload_n 1, 1) := by decide +kernel
theorem dX1_copyFrom_42 : decode cX1_copyFrom 42 = .ok (.getfield 15, 3) := by decide +kernel
theorem dX1_copyFrom_45 : decode cX1_copyFrom 45 = .ok (.iload_n 2, 1) := by decide +kernel
theorem dX1_copyFrom_46 : decode cX1_copyFrom 46 = .ok (.iaload, 1) := by decide +kernel
theorem dX1_copyFrom_47 : decode cX1_copyFrom 47 = .ok (.iastore, 1) := by decide +kernel
theorem dX1_copyFrom_48 : decode cX1_copyFrom 48 = .ok (.aload_n 0, 1) := by decide +kernel
theorem dX1_copyFrom_49 : decode cX1_copyFrom 49 = .ok (.getfield 18, 3) := by decide +kernel
theorem dX1_copyFrom_52 : decode cX1_copyFrom 52 = .ok (.iload_n 2, 1) := by decide +kernel
theorem dX1_copyFrom_53 : decode cX1_copyFrom 53 = .ok (.aload_n 1, 1) := by decide +kernel
theorem dX1_copyFrom_54 : decode cX1_copyFrom 54 = .ok (.getfield 18, 3) := by decide +kernel
theorem dX1_copyFrom_57 : decode cX1_copyFrom 57 = .ok (.iload_n 2, 1) := by decide +kernel
theorem dX1_copyFrom_58 : decode cX1_copyFrom 58 = .ok (.baload, 1) := by decide +kernel
theorem dX1_copyFrom_59 : decode cX1_copyFrom 59 = .ok (.bastore, 1) := by decide +kernel
theorem dX1_copyFrom_60 : decode cX1_copyFrom 60 = .ok (.iinc 2 1, 3) := by decide +kernel
theorem dX1_copyFrom_63 : decode cX1_copyFrom 63 = .ok (.goto (-53), 3) := by decide +kernel
theorem dX1_copyFrom_66 : decode cX1_copyFrom 66 = .ok (.return_, 1) := by decide +kernel
theorem dX2_init_0 : decode cX2_init 0 = .ok (.aload_n 0, 1) := by decide +kernel
theorem dX2_init_1 : decode cX2_init 1 = .ok (.invokespecial 3, 3) := by decide +kernel
theorem dX2_init_4 : decode cX2_init 4 = .ok (.aload_n 0, 1) := by decide +kernel
theorem dX2_init_5 : decode cX2_init 5 = .ok (.new 9, 3) := by decide +kernel
theorem dX2_init_8 : decode cX2_init 8 = .ok (.dup, 1) := by decide +kernel
theorem dX2_init_9 : decode cX2_init 9 = .ok (.invokespecial 11, 3) := by decide +kernel
theorem dX2_init_12 : decode cX2_init 12 = .ok (.putfield 12, 3) := by decide +kernel
theorem dX2_init_15 : decode cX2_init 15 = .ok (.aload_n 0, 1) := by decide +kernel
theorem dX2_init_16 : decode cX2_init 16 = .ok (.iconst 0, 1) := by decide +kernel
theorem dX2_init_17 : decode cX2_init 17 = .ok (.putfield 18, 3) := by decide +kernel
theorem dX2_init_20 : decode cX2_init 20 = .ok (.aload_n 0, 1) := by decide +kernel
theorem dX2_init_21 : decode cX2_init 21 = .ok (.iconst (-1), 1) := by decide +kernel
theorem dX2_init_22 : decode cX2_init 22 = .ok (.putfield 22, 3) := by decide +kernel
theorem dX2_init_25 : decode cX2_init 25 = .ok (.aload_n 0, 1) := by decide +kernel
theorem dX2_init_26 : decode cX2_init 26 = .ok (.iconst (-1), 1) := by decide +kernel
theorem dX2_init_27 : decode cX2_init 27 = .ok (.putfield 26, 3) := by decide +kernel
theorem dX2_init_30 : decode cX2_init 30 = .ok (.aload_n 0, 1) := by decide +kernel
theorem dX2_init_31 : decode cX2_init 31 = .ok (.iconst 0, 1) := by decide +kernel
theorem dX2_init_32 : decode cX2_init 32 = .ok (.putfield 29, 3) := by decide +kernel
theorem dX2_init_35 : decode cX2_init 35 = .ok (.aload_n 0, 1) := by decide +kernel
theorem dX2_init_36 : decode cX2_init 36 = .ok (.iconst 0, 1) := by decide +kernel
theorem dX2_init_37 : decode cX2_init 37 = .ok (.putfield 32, 3) := by decide +kernel
theorem dX2_init_40 : decode cX2_init 40 = .ok (.return_, 1) := by decide +kernel
theorem dX2_belongsTo_0 : decode cX2_belongsTo 0 = .ok (.aload_n 0, 1) := by decide +kernel
theorem dX2_belongsTo_1 : decode cX2_belongsTo 1 = .ok (.getfield 18, 3) := by decide +kernel
theorem dX2_belongsTo_4 : decode cX2_belongsTo 4 = .ok (.ifCond .eq 15, 3) := by decide +kernel
theorem dX2_belongsTo_7 : decode cX2_belongsTo 7 = .ok (.aload_n 0, 1) := by decide +kernel
theorem dX2_belongsTo_8 : decode cX2_belongsTo 8 = .ok (.getfield 26, 3) := by decide +kernel
theorem dX2_belongsTo_11 : decode cX2_belongsTo 11 = .ok (.iload_n 1, 1) := by decide +kernel
theorem dX2_belongsTo_12 : decode cX2_belongsTo 12 = .ok (.if_icmp .ne 7, 3) := by decide +kernel
theorem dX2_belongsTo_15 : decode cX2_belongsTo 15 = .ok (.iconst 1, 1) := by decide +kernel
theorem dX2_belongsTo_16 : decode cX2_belongsTo 16 = .ok (.goto 4, 3) := by decide +kernel
theorem dX2_belongsTo_19 : decode cX2_belongsTo 19 = .ok (.iconst 0, 1) := by decide +kernel
theorem dX2_belongsTo_20 : decode cX2_belongsTo 20 = .ok (.ireturn, 1) := by decide +kernel
theorem dX2_copyFrom_0 : decode cX2_copyFrom 0 = .ok (.aload_n 0, 1) := by decide +kernel
theorem dX2_copyFrom_1 : decode cX2_copyFrom 1 = .ok (.getfield 12, 3) := by decide +kernel
theorem dX2_copyFrom_4 : decode cX2_copyFrom 4 = .ok (.aload_n 1, 1) := by decide +kernel
theorem dX2_copyFrom_5 : decode cX2_copyFrom 5 = .ok (.getfield 12, 3) := by decide +kernel
theorem dX2_copyFrom_8 : decode cX2_copyFrom 8 = .ok (.invokevirtual 35, 3) := by decide +kernel
theorem dX2_copyFrom_11 : decode cX2_copyFrom 11 = .ok (.aload_n 0, 1) := by decide +kernel
theorem dX2_copyFrom_12 : decode cX2_copyFrom 12 = .ok (.aload_n 1, 1) := by decide +kernel
theorem dX2_copyFrom_13 : decode cX2_copyFrom 13 = .ok (.getfield 18, 3) := by decide +kernel
theorem dX2_copyFrom_16 : decode cX2_copyFrom 16 = .ok (.putfield 18, 3) := by decide +kernel
theorem dX2_copyFrom_19 : decode cX2_copyFrom 19 = .ok (.aload_n 0, 1) := by decide +kernel
theorem dX2_copyFrom_20 : decode cX2_copyFrom 20 = .ok (.aload_n 1, 1) := by decide +kernel
theorem dX2_copyFrom_21 : decode cX2_copyFrom 21 = .ok (.getfield 22, 3) := by decide +kernel
theorem dX2_copyFrom_24 : decode cX2_copyFrom 24 = .ok (.putfield 22, 3) := by decide +kernel
theorem dX2_copyFrom_27 : decode cX2_copyFrom 27 = .ok (.aload_n 0, 1) := by decide +kernel
theorem dX2_copyFrom_28 : decode cX2_copyFrom 28 = .ok (.aload_n 1, 1) := by decide +kernel
theorem dX2_copyFrom_29 : decode cX2_copyFrom 29 = .ok (.getfield 26, 3) := by decide +kernel
theorem dX2_copyFrom_32 : decode cX2_copyFrom 32 = .ok (.putfield 26, 3) := by decide +kernel
theorem dX2_copyFrom_35 : decode cX2_copyFrom 35 = .ok (.aload_n 0, 1) := by decide +kernel
theorem dX2_copyFrom_36 : decode cX2_copyFrom 36 = .ok (.aload_n 1, 1) := by decide +kernel
theorem dX2_copyFrom_37 : decode cX2_copyFrom 37 = .ok (.getfield 29, 3) := by decide +kernel
theorem dX2_copyFrom_40 : decode cX2_copyFrom 40 = .ok (.putfield 29, 3) := by decide +kernel
theorem dX2_copyFrom_43 : decode cX2_copyFrom 43 = .ok (.aload_n 0, 1) := by decide +kernel
theorem dX2_copyFrom_44 : decode cX2_copyFrom 44 = .ok (.aload_n 1, 1) := by decide +kernel
theorem dX2_copyFrom_45 : decode cX2_copyFrom 45 = .ok (.getfield 32, 3) := by decide +kernel
theorem dX2_copyFrom_48 : decode cX2_copyFrom 48 = .ok (.putfield 32, 3) := by decide +kernel
theorem dX2_copyFrom_51 : decode cX2_copyFrom 51 = .ok (.return_, 1) := by decide +kernel
theorem dX3_init_0 : decode cX3_init 0 = .ok (.aload_n 0, 1) := by decide +kernel
theorem dX3_init_1 : decode cX3_init 1 = .ok (.invokespecial 3, 3) := by decide +kernel
theorem dX3_init_4 : decode cX3_init 4 = .ok (.aload_n 0, 1) := by decide +kernel
theorem dX3_init_5 : decode cX3_init 5 = .ok (.sipush 128, 3) := by decide +kernel
theorem dX3_init_8 : decode cX3_init 8 = .ok (.newarray .int, 2) := by decide +kernel
theorem dX3_init_10 : decode cX3_init 10 = .ok (.putfield 9, 3) := by decide +kernel
theorem dX3_init_13 : decode cX3_init 13 = .ok (.aload_n 0, 1) := by decide +kernel
theorem dX3_init_14 : decode cX3_init 14 = .ok (.sipush 128, 3) := by decide +kernel
theorem dX3_init_17 : decode cX3_init 17 = .ok (.newarray .int, 2) := by decide +kernel
theorem dX3_init_19 : decode cX3_init 19 = .ok (.putfield 15, 3) := by decide +kernel
theorem dX3_init_22 : decode cX3_init 22 = .ok (.aload_n 0, 1) := by decide +kernel
theorem dX3_init_23 : decode cX3_init 23 = .ok (.sipush 128, 3) := by decide +kernel
theorem dX3_init_26 : decode cX3_init 26 = .ok (.newarray .int, 2) := by decide +kernel
theorem dX3_init_28 : decode cX3_init 28 = .ok (.putfield 18, 3) := by decide +kernel
theorem dX3_init_31 : decode cX3_init 31 = .ok (.aload_n 0, 1) := by decide +kernel
theorem dX3_init_32 : decode cX3_init 32 = .ok (.sipush 128, 3) := by decide +kernel
theorem dX3_init_35 : decode cX3_init 35 = .ok (.newarray .int, 2) := by decide +kernel
theorem dX3_init_37 : decode cX3_init 37 = .ok (.putfield 21, 3) := by decide +kernel
theorem dX3_init_40 : decode cX3_init 40 = .ok (.return_, 1) := by decide +kernel
theorem dX3_isBlock_0 : decode cX3_isBlock 0 = .ok (.iload_n 0, 1) := by decide +kernel
theorem dX3_isBlock_1 : decode cX3_isBlock 1 = .ok (.ifCond .lt 14, 3) := by decide +kernel
theorem dX3_isBlock_4 : decode cX3_isBlock 4 = .ok (.iload_n 0, 1) := by decide +kernel
theorem dX3_isBlock_5 : decode cX3_isBlock 5 = .ok (.sipush 128, 3) := by decide +kernel
theorem dX3_isBlock_8 : decode cX3_isBlock 8 = .ok (.if_icmp .ge 7, 3) := by decide +kernel
theorem dX3_isBlock_11 : decode cX3_isBlock 11 = .ok (.iconst 1, 1) := by decide +kernel
theorem dX3_isBlock_12 : decode cX3_isBlock 12 = .ok (.goto 4, 3) := by decide +kernel
theorem dX3_isBlock_15 : decode cX3_isBlock 15 = .ok (.iconst 0, 1) := by decide +kernel
theorem dX3_isBlock_16 : decode cX3_isBlock 16 = .ok (.ireturn, 1) := by decide +kernel
theorem dX3_isAllocated_0 : decode cX3_isAllocated 0 = .ok (.iload_n 1, 1) := by decide +kernel
theorem dX3_isAllocated_1 : decode cX3_isAllocated 1 = .ok (.invokestatic 24, 3) := by decide +kernel
theorem dX3_isAllocated_4 : decode cX3_isAllocated 4 = .ok (.ifCond .eq 17, 3) := by decide +kernel
theorem dX3_isAllocated_7 : decode cX3_isAllocated 7 = .ok (.aload_n 0, 1) := by decide +kernel
theorem dX3_isAllocated_8 : decode cX3_isAllocated 8 = .ok (.getfield 9, 3) := by decide +kernel
theorem dX3_isAllocated_11 : decode cX3_isAllocated 11 = .ok (.iload_n 1, 1) := by decide +kernel
theorem dX3_isAllocated_12 : decode cX3_isAllocated 12 = .ok (.iaload, 1) := by decide +kernel
theorem dX3_isAllocated_13 : decode cX3_isAllocated 13 = .ok (.iconst 1, 1) := by decide +kernel
theorem dX3_isAllocated_14 : decode cX3_isAllocated 14 = .ok (.if_icmp .ne 7, 3) := by decide +kernel
theorem dX3_isAllocated_17 : decode cX3_isAllocated 17 = .ok (.iconst 1, 1) := by decide +kernel
theorem dX3_isAllocated_18 : decode cX3_isAllocated 18 = .ok (.goto 4, 3) := by decide +kernel
theorem dX3_isAllocated_21 : decode cX3_isAllocated 21 = .ok (.iconst 0, 1) := by decide +kernel
theorem dX3_isAllocated_22 : decode cX3_isAllocated 22 = .ok (.ireturn, 1) := by decide +kernel
theorem dX3_valueOf_0 : decode cX3_valueOf 0 = .ok (.iload_n 1, 1) := by decide +kernel
theorem dX3_valueOf_1 : decode cX3_valueOf 1 = .ok (.invokestatic 24, 3) := by decide +kernel
theorem dX3_valueOf_4 : decode cX3_valueOf 4 = .ok (.ifCond .eq 12, 3) := by decide +kernel
theorem dX3_valueOf_7 : decode cX3_valueOf 7 = .ok (.aload_n 0, 1) := by decide +kernel
theorem dX3_valueOf_8 : decode cX3_valueOf 8 = .ok (.getfield 15, 3) := by decide +kernel
theorem dX3_valueOf_11 : decode cX3_valueOf 11 = .ok (.iload_n 1, 1) := by decide +kernel
theorem dX3_valueOf_12 : decode cX3_valueOf 12 = .ok (.iaload, 1) := by decide +kernel
theorem dX3_valueOf_13 : decode cX3_valueOf 13 = .ok (.goto 4, 3) := by decide +kernel
theorem dX3_valueOf_16 : decode cX3_valueOf 16 = .ok (.iconst 0, 1) := by decide +kernel
theorem dX3_valueOf_17 : decode cX3_valueOf 17 = .ok (.ireturn, 1) := by decide +kernel
theorem dX3_setValue_0 : decode cX3_setValue 0 = .ok (.iload_n 1, 1) := by decide +kernel
theorem dX3_setValue_1 : decode cX3_setValue 1 = .ok (.invokestatic 24, 3) := by decide +kernel
theorem dX3_setValue_4 : decode cX3_setValue 4 = .ok (.ifCond .eq 10, 3) := by decide +kernel
theorem dX3_setValue_7 : decode cX3_setValue 7 = .ok (.aload_n 0, 1) := by decide +kernel
theorem dX3_setValue_8 : decode cX3_setValue 8 = .ok (.getfield 15, 3) := by decide +kernel
theorem dX3_setValue_11 : decode cX3_setValue 11 = .ok (.iload_n 1, 1) := by decide +kernel
theorem dX3_setValue_12 : decode cX3_setValue 12 = .ok (.iload_n 2, 1) := by decide +kernel
theorem dX3_setValue_13 : decode cX3_setValue 13 = .ok (.iastore, 1) := by decide +kernel
theorem dX3_setValue_14 : decode cX3_setValue 14 = .ok (.return_, 1) := by decide +kernel
theorem dX3_birthOf_0 : decode cX3_birthOf 0 = .ok (.iload_n 1, 1) := by decide +kernel
theorem dX3_birthOf_1 : decode cX3_birthOf 1 = .ok (.invokestatic 24, 3) := by decide +kernel
theorem dX3_birthOf_4 : decode cX3_birthOf 4 = .ok (.ifCond .eq 12, 3) := by decide +kernel
theorem dX3_birthOf_7 : decode cX3_birthOf 7 = .ok (.aload_n 0, 1) := by decide +kernel
theorem dX3_birthOf_8 : decode cX3_birthOf 8 = .ok (.getfield 18, 3) := by decide +kernel
theorem dX3_birthOf_11 : decode cX3_birthOf 11 = .ok (.iload_n 1, 1) := by decide +kernel
theorem dX3_birthOf_12 : decode cX3_birthOf 12 = .ok (.iaload, 1) := by decide +kernel
theorem dX3_birthOf_13 : decode cX3_birthOf 13 = .ok (.goto 4, 3) := by decide +kernel
theorem dX3_birthOf_16 : decode cX3_birthOf 16 = .ok (.iconst 0, 1) := by decide +kernel
theorem dX3_birthOf_17 : decode cX3_birthOf 17 = .ok (.ireturn, 1) := by decide +kernel
theorem dX3_bornIn_0 : decode cX3_bornIn 0 = .ok (.aload_n 0, 1) := by decide +kernel
theorem dX3_bornIn_1 : decode cX3_bornIn 1 = .ok (.iload_n 1, 1) := by decide +kernel
theorem dX3_bornIn_2 : decode cX3_bornIn 2 = .ok (.invokevirtual 28, 3) := by decide +kernel
theorem dX3_bornIn_5 : decode cX3_bornIn 5 = .ok (.ifCond .eq 17, 3) := by decide +kernel
theorem dX3_bornIn_8 : decode cX3_bornIn 8 = .ok (.aload_n 0, 1) := by decide +kernel
theorem dX3_bornIn_9 : decode cX3_bornIn 9 = .ok (.getfield 18, 3) := by decide +kernel
theorem dX3_bornIn_12 : decode cX3_bornIn 12 = .ok (.iload_n 1, 1) := by decide +kernel
theorem dX3_bornIn_13 : decode cX3_bornIn 13 = .ok (.iaload, 1) := by decide +kernel
theorem dX3_bornIn_14 : decode cX3_bornIn 14 = .ok (.iload_n 2, 1) := by decide +kernel
theorem dX3_bornIn_15 : decode cX3_bornIn 15 = .ok (.if_icmp .ne 7, 3) := by decide +kernel
theorem dX3_bornIn_18 : decode cX3_bornIn 18 = .ok (.iconst 1, 1) := by decide +kernel
theorem dX3_bornIn_19 : decode cX3_bornIn 19 = .ok (.goto 4, 3) := by decide +kernel
theorem dX3_bornIn_22 : decode cX3_bornIn 22 = .ok (.iconst 0, 1) := by decide +kernel
theorem dX3_bornIn_23 : decode cX3_bornIn 23 = .ok (.ireturn, 1) := by decide +kernel
theorem dX3_usesOf_0 : decode cX3_usesOf 0 = .ok (.iload_n 1, 1) := by decide +kernel
theorem dX3_usesOf_1 : decode cX3_usesOf 1 = .ok (.invokestatic 24, 3) := by decide +kernel
theorem dX3_usesOf_4 : decode cX3_usesOf 4 = .ok (.ifCond .eq 12, 3) := by decide +kernel
theorem dX3_usesOf_7 : decode cX3_usesOf 7 = .ok (.aload_n 0, 1) := by decide +kernel
theorem dX3_usesOf_8 : decode cX3_usesOf 8 = .ok (.getfield 21, 3) := by decide +kernel
theorem dX3_usesOf_11 : decode cX3_usesOf 11 = .ok (.iload_n 1, 1) := by decide +kernel
theorem dX3_usesOf_12 : decode cX3_usesOf 12 = .ok (.iaload, 1) := by decide +kernel
theorem dX3_usesOf_13 : decode cX3_usesOf 13 = .ok (.goto 4, 3) := by decide +kernel
theorem dX3_usesOf_16 : decode cX3_usesOf 16 = .ok (.iconst 0, 1) := by decide +kernel
theorem dX3_usesOf_17 : decode cX3_usesOf 17 = .ok (.ireturn, 1) := by decide +kernel
theorem dX3_addUse_0 : decode cX3_addUse 0 = .ok (.iload_n 1, 1) := by decide +kernel
theorem dX3_addUse_1 : decode cX3_addUse 1 = .ok (.invokestatic 24, 3) := by decide +kernel
theorem dX3_addUse_4 : decode cX3_addUse 4 = .ok (.ifCond .eq 13, 3) := by decide +kernel
theorem dX3_addUse_7 : decode cX3_addUse 7 = .ok (.aload_n 0, 1) := by decide +kernel
theorem dX3_addUse_8 : decode cX3_addUse 8 = .ok (.getfield 21, 3) := by decide +kernel
theorem dX3_addUse_11 : decode cX3_addUse 11 = .ok (.iload_n 1, 1) := by decide +kernel
theorem dX3_addUse_12 : decode cX3_addUse 12 = .ok (.dup2, 1) := by decide +kernel
theorem dX3_addUse_13 : decode cX3_addUse 13 = .ok (.iaload, 1) := by decide +kernel
theorem dX3_addUse_14 : decode cX3_addUse 14 = .ok (.iconst 1, 1) := by decide +kernel
theorem dX3_addUse_15 : decode cX3_addUse 15 = .ok (.iadd, 1) := by decide +kernel
theorem dX3_addUse_16 : decode cX3_addUse 16 = .ok (.iastore, 1) := by decide +kernel
theorem dX3_addUse_17 : decode cX3_addUse 17 = .ok (.return_, 1) := by decide +kernel
theorem dX3_removeUse_0 : decode cX3_removeUse 0 = .ok (.iload_n 1, 1) := by decide +kernel
theorem dX3_removeUse_1 : decode cX3_removeUse 1 = .ok (.invokestatic 24, 3) := by decide +kernel
theorem dX3_removeUse_4 : decode cX3_removeUse 4 = .ok (.ifCond .eq 13, 3) := by decide +kernel
theorem dX3_removeUse_7 : decode cX3_removeUse 7 = .ok (.aload_n 0, 1) := by decide +kernel
theorem dX3_removeUse_8 : decode cX3_removeUse 8 = .ok (.getfield 21, 3) := by decide +kernel
theorem dX3_removeUse_11 : decode cX3_removeUse 11 = .ok (.iload_n 1, 1) := by decide +kernel
theorem dX3_removeUse_12 : decode cX3_removeUse 12 = .ok (.dup2, 1) := by decide +kernel
theorem dX3_removeUse_13 : decode cX3_removeUse 13 = .ok (.iaload, 1) := by decide +kernel
theorem dX3_removeUse_14 : decode cX3_removeUse 14 = .ok (.iconst 1, 1) := by decide +kernel
theorem dX3_removeUse_15 : decode cX3_removeUse 15 = .ok (.isub, 1) := by decide +kernel
theorem dX3_removeUse_16 : decode cX3_removeUse 16 = .ok (.iastore, 1) := by decide +kernel
theorem dX3_removeUse_17 : decode cX3_removeUse 17 = .ok (.return_, 1) := by decide +kernel
theorem dX3_allocate_0 : decode cX3_allocate 0 = .ok (.iload_n 1, 1) := by decide +kernel
theorem dX3_allocate_1 : decode cX3_allocate 1 = .ok (.invokestatic 24, 3) := by decide +kernel
theorem dX3_allocate_4 : decode cX3_allocate 4 = .ok (.ifCond .eq 24, 3) := by decide +kernel
theorem dX3_allocate_7 : decode cX3_allocate 7 = .ok (.aload_n 0, 1) := by decide +kernel
theorem dX3_allocate_8 : decode cX3_allocate 8 = .ok (.getfield 9, 3) := by decide +kernel
theorem dX3_allocate_11 : decode cX3_allocate 11 = .ok (.iload_n 1, 1) := by decide +kernel
theorem dX3_allocate_12 : decode cX3_allocate 12 = .ok (.iconst 1, 1) := by decide +kernel
theorem dX3_allocate_13 : decode cX3_allocate 13 = .ok (.iastore, 1) := by decide +kernel
theorem dX3_allocate_14 : decode cX3_allocate 14 = .ok (.aload_n 0, 1) := by decide +kernel
theorem dX3_allocate_15 : decode cX3_allocate 15 = .ok (.getfield 15, 3) := by decide +kernel
theorem dX3_allocate_18 : decode cX3_allocate 18 = .ok (.iload_n 1, 1) := by decide +kernel
theorem dX3_allocate_19 : decode cX3_allocate 19 = .ok (.iload_n 2, 1) := by decide +kernel
theorem dX3_allocate_20 : decode cX3_allocate 20 = .ok (.iastore, 1) := by decide +kernel
theorem dX3_allocate_21 : decode cX3_allocate 21 = .ok (.aload_n 0, 1) := by decide +kernel
theorem dX3_allocate_22 : decode cX3_allocate 22 = .ok (.getfield 18, 3) := by decide +kernel
theorem dX3_allocate_25 : decode cX3_allocate 25 = .ok (.iload_n 1, 1) := by decide +kernel
theorem dX3_allocate_26 : decode cX3_allocate 26 = .ok (.iload_n 3, 1) := by decide +kernel
theorem dX3_allocate_27 : decode cX3_allocate 27 = .ok (.iastore, 1) := by decide +kernel
theorem dX3_allocate_28 : decode cX3_allocate 28 = .ok (.return_, 1) := by decide +kernel
theorem dX3_count_0 : decode cX3_count 0 = .ok (.iconst 0, 1) := by decide +kernel
theorem dX3_count_1 : decode cX3_count 1 = .ok (.istore 4, 2) := by decide +kernel
theorem dX3_count_3 : decode cX3_count 3 = .ok (.iload_n 2, 1) := by decide +kernel
theorem dX3_count_4 : decode cX3_count 4 = .ok (.istore 5, 2) := by decide +kernel
theorem dX3_count_6 : decode cX3_count 6 = .ok (.iload 5, 2) := by decide +kernel
theorem dX3_count_8 : decode cX3_count 8 = .ok (.iload_n 3, 1) := by decide +kernel
theorem dX3_count_9 : decode cX3_count 9 = .ok (.if_icmp .ge 31, 3) := by decide +kernel
theorem dX3_count_12 : decode cX3_count 12 = .ok (.iload 5, 2) := by decide +kernel
theorem dX3_count_14 : decode cX3_count 14 = .ok (.invokestatic 24, 3) := by decide +kernel
theorem dX3_count_17 : decode cX3_count 17 = .ok (.ifCond .eq 17, 3) := by decide +kernel
theorem dX3_count_20 : decode cX3_count 20 = .ok (.aload_n 0, 1) := by decide +kernel
theorem dX3_count_21 : decode cX3_count 21 = .ok (.getfield 9, 3) := by decide +kernel
theorem dX3_count_24 : decode cX3_count 24 = .ok (.iload 5, 2) := by decide +kernel
theorem dX3_count_26 : decode cX3_count 26 = .ok (.iaload, 1) := by decide +kernel
theorem dX3_count_27 : decode cX3_count 27 = .ok (.iload_n 1, 1) := by decide +kernel
theorem dX3_count_28 : decode cX3_count 28 = .ok (.if_icmp .ne 6, 3) := by decide +kernel
theorem dX3_count_31 : decode cX3_count 31 = .ok (.iinc 4 1, 3) := by decide +kernel
theorem dX3_count_34 : decode cX3_count 34 = .ok (.iinc 5 1, 3) := by decide +kernel
theorem dX3_count_37 : decode cX3_count 37 = .ok (.goto (-31), 3) := by decide +kernel
theorem dX3_count_40 : decode cX3_count 40 = .ok (.iload 4, 2) := by decide +kernel
theorem dX3_count_42 : decode cX3_count 42 = .ok (.ireturn, 1) := by decide +kernel
theorem dX3_freeInRegion_0 : decode cX3_freeInRegion 0 = .ok (.iload_n 1, 1) := by decide +kernel
theorem dX3_freeInRegion_1 : decode cX3_freeInRegion 1 = .ok (.bipush 32, 2) := by decide +kernel
theorem dX3_freeInRegion_3 : decode cX3_freeInRegion 3 = .ok (.imul, 1) := by decide +kernel
theorem dX3_freeInRegion_4 : decode cX3_freeInRegion 4 = .ok (.istore_n 2, 1) := by decide +kernel
theorem dX3_freeInRegion_5 : decode cX3_freeInRegion 5 = .ok (.aload_n 0, 1) := by decide +kernel
theorem dX3_freeInRegion_6 : decode cX3_freeInRegion 6 = .ok (.iconst 0, 1) := by decide +kernel
theorem dX3_freeInRegion_7 : decode cX3_freeInRegion 7 = .ok (.iload_n 2, 1) := by decide +kernel
theorem dX3_freeInRegion_8 : decode cX3_freeInRegion 8 = .ok (.iload_n 2, 1) := by decide +kernel
theorem dX3_freeInRegion_9 : decode cX3_freeInRegion 9 = .ok (.bipush 32, 2) := by decide +kernel
theorem dX3_freeInRegion_11 : decode cX3_freeInRegion 11 = .ok (.iadd, 1) := by decide +kernel
theorem dX3_freeInRegion_12 : decode cX3_freeInRegion 12 = .ok (.invokevirtual 31, 3) := by decide +kernel
theorem dX3_freeInRegion_15 : decode cX3_freeInRegion 15 = .ok (.ireturn, 1) := by decide +kernel
theorem dX3_emptiestRegion_0 : decode cX3_emptiestRegion 0 = .ok (.iconst 0, 1) := by decide +kernel
theorem dX3_emptiestRegion_1 : decode cX3_emptiestRegion 1 = .ok (.istore_n 1, 1) := by decide +kernel
theorem dX3_emptiestRegion_2 : decode cX3_emptiestRegion 2 = .ok (.iconst (-1), 1) := by decide +kernel
theorem dX3_emptiestRegion_3 : decode cX3_emptiestRegion 3 = .ok (.istore_n 2, 1) := by decide +kernel
theorem dX3_emptiestRegion_4 : decode cX3_emptiestRegion 4 = .ok (.iconst 0, 1) := by decide +kernel
theorem dX3_emptiestRegion_5 : decode cX3_emptiestRegion 5 = .ok (.istore_n 3, 1) := by decide +kernel
theorem dX3_emptiestRegion_6 : decode cX3_emptiestRegion 6 = .ok (.iload_n 3, 1) := by decide +kernel
theorem dX3_emptiestRegion_7 : decode cX3_emptiestRegion 7 = .ok (.iconst 4, 1) := by decide +kernel
theorem dX3_emptiestRegion_8 : decode cX3_emptiestRegion 8 = .ok (.if_icmp .ge 27, 3) := by decide +kernel
theorem dX3_emptiestRegion_11 : decode cX3_emptiestRegion 11 = .ok (.aload_n 0, 1) := by decide +kernel
theorem dX3_emptiestRegion_12 : decode cX3_emptiestRegion 12 = .ok (.iload_n 3, 1) := by decide +kernel
theorem dX3_emptiestRegion_13 : decode cX3_emptiestRegion 13 = .ok (.invokevirtual 35, 3) := by decide +kernel
theorem dX3_emptiestRegion_16 : decode cX3_emptiestRegion 16 = .ok (.istore 4, 2) := by decide +kernel
theorem dX3_emptiestRegion_18 : decode cX3_emptiestRegion 18 = .ok (.iload 4, 2) := by decide +kernel
theorem dX3_emptiestRegion_20 : decode cX3_emptiestRegion 20 = .ok (.iload_n 2, 1) := by decide +kernel
theorem dX3_emptiestRegion_21 : decode cX3_emptiestRegion 21 = .ok (.if_icmp .le 8, 3) := by decide +kernel
theorem dX3_emptiestRegion_24 : decode cX3_emptiestRegion 24 = .ok (.iload_n 3, 1) := by decide +kernel
theorem dX3_emptiestRegion_25 : decode cX3_emptiestRegion 25 = .ok (.istore_n 1, 1) := by decide +kernel
theorem dX3_emptiestRegion_26 : decode cX3_emptiestRegion 26 = .ok (.iload 4, 2) := by decide +kernel
theorem dX3_emptiestRegion_28 : decode cX3_emptiestRegion 28 = .ok (.istore_n 2, 1) := by decide +kernel
theorem dX3_emptiestRegion_29 : decode cX3_emptiestRegion 29 = .ok (.iinc 3 1, 3) := by decide +kernel
theorem dX3_emptiestRegion_32 : decode cX3_emptiestRegion 32 = .ok (.goto (-26), 3) := by decide +kernel
theorem dX3_emptiestRegion_35 : decode cX3_emptiestRegion 35 = .ok (.iload_n 1, 1) := by decide +kernel
theorem dX3_emptiestRegion_36 : decode cX3_emptiestRegion 36 = .ok (.ireturn, 1) := by decide +kernel
theorem dX3_nextFreeBlock_0 : decode cX3_nextFreeBlock 0 = .ok (.aload_n 0, 1) := by decide +kernel
theorem dX3_nextFreeBlock_1 : decode cX3_nextFreeBlock 1 = .ok (.invokevirtual 39, 3) := by decide +kernel
theorem dX3_nextFreeBlock_4 : decode cX3_nextFreeBlock 4 = .ok (.bipush 32, 2) := by decide +kernel
theorem dX3_nextFreeBlock_6 : decode cX3_nextFreeBlock 6 = .ok (.imul, 1) := by decide +kernel
theorem dX3_nextFreeBlock_7 : decode cX3_nextFreeBlock 7 = .ok (.istore_n 1, 1) := by decide +kernel
theorem dX3_nextFreeBlock_8 : decode cX3_nextFreeBlock 8 = .ok (.iload_n 1, 1) := by decide +kernel
theorem dX3_nextFreeBlock_9 : decode cX3_nextFreeBlock 9 = .ok (.istore_n 2, 1) := by decide +kernel
theorem dX3_nextFreeBlock_10 : decode cX3_nextFreeBlock 10 = .ok (.iload_n 2, 1) := by decide +kernel
theorem dX3_nextFreeBlock_11 : decode cX3_nextFreeBlock 11 = .ok (.iload_n 1, 1) := by decide +kernel
theorem dX3_nextFreeBlock_12 : decode cX3_nextFreeBlock 12 = .ok (.bipush 32, 2) := by decide +kernel
theorem dX3_nextFreeBlock_14 : decode cX3_nextFreeBlock 14 = .ok (.iadd, 1) := by decide +kernel
theorem dX3_nextFreeBlock_15 : decode cX3_nextFreeBlock 15 = .ok (.if_icmp .ge 27, 3) := by decide +kernel
theorem dX3_nextFreeBlock_18 : decode cX3_nextFreeBlock 18 = .ok (.iload_n 2, 1) := by decide +kernel
theorem dX3_nextFreeBlock_19 : decode cX3_nextFreeBlock 19 = .ok (.invokestatic 24, 3) := by decide +kernel
theorem dX3_nextFreeBlock_22 : decode cX3_nextFreeBlock 22 = .ok (.ifCond .eq 14, 3) := by decide +kernel
theorem dX3_nextFreeBlock_25 : decode cX3_nextFreeBlock 25 = .ok (.aload_n 0, 1) := by decide +kernel
theorem dX3_nextFreeBlock_26 : decode cX3_nextFreeBlock 26 = .ok (.getfield 9, 3) := by decide +kernel
theorem dX3_nextFreeBlock_29 : decode cX3_nextFreeBlock 29 = .ok (.iload_n 2, 1) := by decide +kernel
theorem dX3_nextFreeBlock_30 : decode cX3_nextFreeBlock 30 = .ok (.iaload, 1) := by decide +kernel
theorem dX3_nextFreeBlock_31 : decode cX3_nextFreeBlock 31 = .ok (.ifCond .ne 5, 3) := by decide +kernel
theorem dX3_nextFreeBlock_34 : decode cX3_nextFreeBlock 34 = .ok (.iload_n 2, 1) := by decide +kernel
theorem dX3_nextFreeBlock_35 : decode cX3_nextFreeBlock 35 = .ok (.ireturn, 1) := by decide +kernel
theorem dX3_nextFreeBlock_36 : decode cX3_nextFreeBlock 36 = .ok (.iinc 2 1, 3) := by decide +kernel
theorem dX3_nextFreeBlock_39 : decode cX3_nextFreeBlock 39 = .ok (.goto (-29), 3) := by decide +kernel
theorem dX3_nextFreeBlock_42 : decode cX3_nextFreeBlock 42 = .ok (.iconst (-1), 1) := by decide +kernel
theorem dX3_nextFreeBlock_43 : decode cX3_nextFreeBlock 43 = .ok (.ireturn, 1) := by decide +kernel
theorem dX3_retireUnused_0 : decode cX3_retireUnused 0 = .ok (.iconst 0, 1) := by decide +kernel
theorem dX3_retireUnused_1 : decode cX3_retireUnused 1 = .ok (.istore_n 2, 1) := by decide +kernel
theorem dX3_retireUnused_2 : decode cX3_retireUnused 2 = .ok (.iconst 0, 1) := by decide +kernel
theorem dX3_retireUnused_3 : decode cX3_retireUnused 3 = .ok (.istore_n 3, 1) := by decide +kernel
theorem dX3_retireUnused_4 : decode cX3_retireUnused 4 = .ok (.iload_n 3, 1) := by decide +kernel
theorem dX3_retireUnused_5 : decode cX3_retireUnused 5 = .ok (.sipush 128, 3) := by decide +kernel
theorem dX3_retireUnused_8 : decode cX3_retireUnused 8 = .ok (.if_icmp .ge 52, 3) := by decide +kernel
theorem dX3_retireUnused_11 : decode cX3_retireUnused 11 = .ok (.aload_n 0, 1) := by decide +kernel
theorem dX3_retireUnused_12 : decode cX3_retireUnused 12 = .ok (.getfield 9, 3) := by decide +kernel
theorem dX3_retireUnused_15 : decode cX3_retireUnused 15 = .ok (.iload_n 3, 1) := by decide +kernel
theorem dX3_retireUnused_16 : decode cX3_retireUnused 16 = .ok (.iaload, 1) := by decide +kernel
theorem dX3_retireUnused_17 : decode cX3_retireUnused 17 = .ok (.iconst 1, 1) := by decide +kernel
theorem dX3_retireUnused_18 : decode cX3_retireUnused 18 = .ok (.if_icmp .ne 36, 3) := by decide +kernel
theorem dX3_retireUnused_21 : decode cX3_retireUnused 21 = .ok (.aload_n 0, 1) := by decide +kernel
theorem dX3_retireUnused_22 : decode cX3_retireUnused 22 = .ok (.getfield 21, 3) := by decide +kernel
theorem dX3_retireUnused_25 : decode cX3_retireUnused 25 = .ok (.iload_n 3, 1) := by decide +kernel
theorem dX3_retireUnused_26 : decode cX3_retireUnused 26 = .ok (.iaload, 1) := by decide +kernel
theorem dX3_retireUnused_27 : decode cX3_retireUnused 27 = .ok (.ifCond .ne 27, 3) := by decide +kernel
theorem dX3_retireUnused_30 : decode cX3_retireUnused 30 = .ok (.aload_n 0, 1) := by decide +kernel
theorem dX3_retireUnused_31 : decode cX3_retireUnused 31 = .ok (.getfield 9, 3) := by decide +kernel
theorem dX3_retireUnused_34 : decode cX3_retireUnused 34 = .ok (.iload_n 3, 1) := by decide +kernel
theorem dX3_retireUnused_35 : decode cX3_retireUnused 35 = .ok (.aload_n 0, 1) := by decide +kernel
theorem dX3_retireUnused_36 : decode cX3_retireUnused 36 = .ok (.getfield 18, 3) := by decide +kernel
theorem dX3_retireUnused_39 : decode cX3_retireUnused 39 = .ok (.iload_n 3, 1) := by decide +kernel
theorem dX3_retireUnused_40 : decode cX3_retireUnused 40 = .ok (.iaload, 1) := by decide +kernel
theorem dX3_retireUnused_41 : decode cX3_retireUnused 41 = .ok (.iload_n 1, 1) := by decide +kernel
theorem dX3_retireUnused_42 : decode cX3_retireUnused 42 = .ok (.if_icmp .ne 7, 3) := by decide +kernel
theorem dX3_retireUnused_45 : decode cX3_retireUnused 45 = .ok (.iconst 0, 1) := by decide +kernel
theorem dX3_retireUnused_46 : decode cX3_retireUnused 46 = .ok (.goto 4, 3) := by decide +kernel
theorem dX3_retireUnused_49 : decode cX3_retireUnused 49 = .ok (.iconst 2, 1) := by decide +kernel
theorem dX3_retireUnused_50 : decode cX3_retireUnused 50 = .ok (.iastore, 1) := by decide +kernel
theorem dX3_retireUnused_51 : decode cX3_retireUnused 51 = .ok (.iinc 2 1, 3) := by decide +kernel
theorem dX3_retireUnused_54 : decode cX3_retireUnused 54 = .ok (.iinc 3 1, 3) := by decide +kernel
theorem dX3_retireUnused_57 : decode cX3_retireUnused 57 = .ok (.goto (-53), 3) := by decide +kernel
theorem dX3_retireUnused_60 : decode cX3_retireUnused 60 = .ok (.iload_n 2, 1) := by decide +kernel
theorem dX3_retireUnused_61 : decode cX3_retireUnused 61 = .ok (.ireturn, 1) := by decide +kernel
theorem dX3_releasePending_0 : decode cX3_releasePending 0 = .ok (.iconst 0, 1) := by decide +kernel
theorem dX3_releasePending_1 : decode cX3_releasePending 1 = .ok (.istore_n 1, 1) := by decide +kernel
theorem dX3_releasePending_2 : decode cX3_releasePending 2 = .ok (.iload_n 1, 1) := by decide +kernel
theorem dX3_releasePending_3 : decode cX3_releasePending 3 = .ok (.sipush 128, 3) := by decide +kernel
theorem dX3_releasePending_6 : decode cX3_releasePending 6 = .ok (.if_icmp .ge 26, 3) := by decide +kernel
theorem dX3_releasePending_9 : decode cX3_releasePending 9 = .ok (.aload_n 0, 1) := by decide +kernel
theorem dX3_releasePending_10 : decode cX3_releasePending 10 = .ok (.getfield 9, 3) := by decide +kernel
theorem dX3_releasePending_13 : decode cX3_releasePending 13 = .ok (.iload_n 1, 1) := by decide +kernel
theorem dX3_releasePending_14 : decode cX3_releasePending 14 = .ok (.iaload, 1) := by decide +kernel
theorem dX3_releasePending_15 : decode cX3_releasePending 15 = .ok (.iconst 2, 1) := by decide +kernel
theorem dX3_releasePending_16 : decode cX3_releasePending 16 = .ok (.if_icmp .ne 10, 3) := by decide +kernel
theorem dX3_releasePending_19 : decode cX3_releasePending 19 = .ok (.aload_n 0, 1) := by decide +kernel
theorem dX3_releasePending_20 : decode cX3_releasePending 20 = .ok (.getfield 9, 3) := by decide +kernel
theorem dX3_releasePending_23 : decode cX3_releasePending 23 = .ok (.iload_n 1, 1) := by decide +kernel
theorem dX3_releasePending_24 : decode cX3_releasePending 24 = .ok (.iconst 0, 1) := by decide +kernel
theorem dX3_releasePending_25 : decode cX3_releasePending 25 = .ok (.iastore, 1) := by decide +kernel
theorem dX3_releasePending_26 : decode cX3_releasePending 26 = .ok (.iinc 1 1, 3) := by decide +kernel
theorem dX3_releasePending_29 : decode cX3_releasePending 29 = .ok (.goto (-27), 3) := by decide +kernel
theorem dX3_releasePending_32 : decode cX3_releasePending 32 = .ok (.return_, 1) := by decide +kernel
theorem dX3_copyFrom_0 : decode cX3_copyFrom 0 = .ok (.aload_n 1, 1) := by decide +kernel
theorem dX3_copyFrom_1 : decode cX3_copyFrom 1 = .ok (.getfield 9, 3) := by decide +kernel
theorem dX3_copyFrom_4 : decode cX3_copyFrom 4 = .ok (.iconst 0, 1) := by decide +kernel
theorem dX3_copyFrom_5 : decode cX3_copyFrom 5 = .ok (.aload_n 0, 1) := by decide +kernel
theorem dX3_copyFrom_6 : decode cX3_copyFrom 6 = .ok (.getfield 9, 3) := by decide +kernel
theorem dX3_copyFrom_9 : decode cX3_copyFrom 9 = .ok (.iconst 0, 1) := by decide +kernel
theorem dX3_copyFrom_10 : decode cX3_copyFrom 10 = .ok (.sipush 128, 3) := by decide +kernel
theorem dX3_copyFrom_13 : decode cX3_copyFrom 13 = .ok (.invokestatic 43, 3) := by decide +kernel
theorem dX3_copyFrom_16 : decode cX3_copyFrom 16 = .ok (.aload_n 1, 1) := by decide +kernel
theorem dX3_copyFrom_17 : decode cX3_copyFrom 17 = .ok (.getfield 15, 3) := by decide +kernel
theorem dX3_copyFrom_20 : decode cX3_copyFrom 20 = .ok (.iconst 0, 1) := by decide +kernel
theorem dX3_copyFrom_21 : decode cX3_copyFrom 21 = .ok (.aload_n 0, 1) := by decide +kernel
theorem dX3_copyFrom_22 : decode cX3_copyFrom 22 = .ok (.getfield 15, 3) := by decide +kernel
theorem dX3_copyFrom_25 : decode cX3_copyFrom 25 = .ok (.iconst 0, 1) := by decide +kernel
theorem dX3_copyFrom_26 : decode cX3_copyFrom 26 = .ok (.sipush 128, 3) := by decide +kernel
theorem dX3_copyFrom_29 : decode cX3_copyFrom 29 = .ok (.invokestatic 43, 3) := by decide +kernel
theorem dX3_copyFrom_32 : decode cX3_copyFrom 32 = .ok (.aload_n 1, 1) := by decide +kernel
theorem dX3_copyFrom_33 : decode cX3_copyFrom 33 = .ok (.getfield 18, 3) := by decide +kernel
theorem dX3_copyFrom_36 : decode cX3_copyFrom 36 = .ok (.iconst 0, 1) := by decide +kernel
theorem dX3_copyFrom_37 : decode cX3_copyFrom 37 = .ok (.aload_n 0, 1) := by decide +kernel
theorem dX3_copyFrom_38 : decode cX3_copyFrom 38 = .ok (.getfield 18, 3) := by decide +kernel
theorem dX3_copyFrom_41 : decode cX3_copyFrom 41 = .ok (.iconst 0, 1) := by decide +kernel
theorem dX3_copyFrom_42 : decode cX3_copyFrom 42 = .ok (.sipush 128, 3) := by decide +kernel
theorem dX3_copyFrom_45 : decode cX3_copyFrom 45 = .ok (.invokestatic 43, 3) := by decide +kernel
theorem dX3_copyFrom_48 : decode cX3_copyFrom 48 = .ok (.aload_n 1, 1) := by decide +kernel
theorem dX3_copyFrom_49 : decode cX3_copyFrom 49 = .ok (.getfield 21, 3) := by decide +kernel
theorem dX3_copyFrom_52 : decode cX3_copyFrom 52 = .ok (.iconst 0, 1) := by decide +kernel
theorem dX3_copyFrom_53 : decode cX3_copyFrom 53 = .ok (.aload_n 0, 1) := by decide +kernel
theorem dX3_copyFrom_54 : decode cX3_copyFrom 54 = .ok (.getfield 21, 3) := by decide +kernel
theorem dX3_copyFrom_57 : decode cX3_copyFrom 57 = .ok (.iconst 0, 1) := by decide +kernel
theorem dX3_copyFrom_58 : decode cX3_copyFrom 58 = .ok (.sipush 128, 3) := by decide +kernel
theorem dX3_copyFrom_61 : decode cX3_copyFrom 61 = .ok (.invokestatic 43, 3) := by decide +kernel
theorem dX3_copyFrom_64 : decode cX3_copyFrom 64 = .ok (.return_, 1) := by decide +kernel
theorem dX4_init_0 : decode cX4_init 0 = .ok (.aload_n 0, 1) := by decide +kernel
theorem dX4_init_1 : decode cX4_init 1 = .ok (.invokespecial 3, 3) := by decide +kernel
theorem dX4_init_4 : decode cX4_init 4 = .ok (.aload_n 0, 1) := by decide +kernel
theorem dX4_init_5 : decode cX4_init 5 = .ok (.sipush 128, 3) := by decide +kernel
theorem dX4_init_8 : decode cX4_init 8 = .ok (.newarray .int, 2) := by decide +kernel
theorem dX4_init_10 : decode cX4_init 10 = .ok (.putfield 9, 3) := by decide +kernel
theorem dX4_init_13 : decode cX4_init 13 = .ok (.aload_n 0, 1) := by decide +kernel
theorem dX4_init_14 : decode cX4_init 14 = .ok (.getfield 9, 3) := by decide +kernel
theorem dX4_init_17 : decode cX4_init 17 = .ok (.iconst (-1), 1) := by decide +kernel
theorem dX4_init_18 : decode cX4_init 18 = .ok (.invokestatic 15, 3) := by decide +kernel
theorem dX4_init_21 : decode cX4_init 21 = .ok (.return_, 1) := by decide +kernel
theorem dX4_blockOf_0 : decode cX4_blockOf 0 = .ok (.iload_n 1, 1) := by decide +kernel
theorem dX4_blockOf_1 : decode cX4_blockOf 1 = .ok (.ifCond .lt 21, 3) := by decide +kernel
theorem dX4_blockOf_4 : decode cX4_blockOf 4 = .ok (.iload_n 1, 1) := by decide +kernel
theorem dX4_blockOf_5 : decode cX4_blockOf 5 = .ok (.aload_n 0, 1) := by decide +kernel
theorem dX4_blockOf_6 : decode cX4_blockOf 6 = .ok (.getfield 9, 3) := by decide +kernel
theorem dX4_blockOf_9 : decode cX4_blockOf 9 = .ok (.arraylength, 1) := by decide +kernel
theorem dX4_blockOf_10 : decode cX4_blockOf 10 = .ok (.if_icmp .ge 12, 3) := by decide +kernel
theorem dX4_blockOf_13 : decode cX4_blockOf 13 = .ok (.aload_n 0, 1) := by decide +kernel
theorem dX4_blockOf_14 : decode cX4_blockOf 14 = .ok (.getfield 9, 3) := by decide +kernel
theorem dX4_blockOf_17 : decode cX4_blockOf 17 = .ok (.iload_n 1, 1) := by decide +kernel
theorem dX4_blockOf_18 : decode cX4_blockOf 18 = .ok (.iaload, 1) := by decide +kernel
theorem dX4_blockOf_19 : decode cX4_blockOf 19 = .ok (.goto 4, 3) := by decide +kernel
theorem dX4_blockOf_22 : decode cX4_blockOf 22 = .ok (.iconst (-1), 1) := by decide +kernel
theorem dX4_blockOf_23 : decode cX4_blockOf 23 = .ok (.ireturn, 1) := by decide +kernel
theorem dX4_set_0 : decode cX4_set 0 = .ok (.iload_n 1, 1) := by decide +kernel
theorem dX4_set_1 : decode cX4_set 1 = .ok (.ifCond .lt 19, 3) := by decide +kernel
theorem dX4_set_4 : decode cX4_set 4 = .ok (.iload_n 1, 1) := by decide +kernel
theorem dX4_set_5 : decode cX4_set 5 = .ok (.aload_n 0, 1) := by decide +kernel
theorem dX4_set_6 : decode cX4_set 6 = .ok (.getfield 9, 3) := by decide +kernel
theorem dX4_set_9 : decode cX4_set 9 = .ok (.arraylength, 1) := by decide +kernel
theorem dX4_set_10 : decode cX4_set 10 = .ok (.if_icmp .ge 10, 3) := by decide +kernel
theorem dX4_set_13 : decode cX4_set 13 = .ok (.aload_n 0, 1) := by decide +kernel
theorem dX4_set_14 : decode cX4_set 14 = .ok (.getfield 9, 3) := by decide +kernel
theorem dX4_set_17 : decode cX4_set 17 = .ok (.iload_n 1, 1) := by decide +kernel
theorem dX4_set_18 : decode cX4_set 18 = .ok (.iload_n 2, 1) := by decide +kernel
theorem dX4_set_19 : decode cX4_set 19 = .ok (.iastore, 1) := by decide +kernel
theorem dX4_set_20 : decode cX4_set 20 = .ok (.return_, 1) := by decide +kernel
theorem dX4_copyFrom_0 : decode cX4_copyFrom 0 = .ok (.aload_n 1, 1) := by decide +kernel
theorem dX4_copyFrom_1 : decode cX4_copyFrom 1 = .ok (.getfield 9, 3) := by decide +kernel
theorem dX4_copyFrom_4 : decode cX4_copyFrom 4 = .ok (.iconst 0, 1) := by decide +kernel
theorem dX4_copyFrom_5 : decode cX4_copyFrom 5 = .ok (.aload_n 0, 1) := by decide +kernel
theorem dX4_copyFrom_6 : decode cX4_copyFrom 6 = .ok (.getfield 9, 3) := by decide +kernel
theorem dX4_copyFrom_9 : decode cX4_copyFrom 9 = .ok (.iconst 0, 1) := by decide +kernel
theorem dX4_copyFrom_10 : decode cX4_copyFrom 10 = .ok (.sipush 128, 3) := by decide +kernel
theorem dX4_copyFrom_13 : decode cX4_copyFrom 13 = .ok (.invokestatic 21, 3) := by decide +kernel
theorem dX4_copyFrom_16 : decode cX4_copyFrom 16 = .ok (.return_, 1) := by decide +kernel
theorem dX5_init_0 : decode cX5_init 0 = .ok (.aload_n 0, 1) := by decide +kernel
theorem dX5_init_1 : decode cX5_init 1 = .ok (.invokespecial 3, 3) := by decide +kernel
theorem dX5_init_4 : decode cX5_init 4 = .ok (.aload_n 0, 1) := by decide +kernel
theorem dX5_init_5 : decode cX5_init 5 = .ok (.bipush 6, 2) := by decide +kernel
theorem dX5_init_7 : decode cX5_init 7 = .ok (.anewarray 9, 3) := by decide +kernel
theorem dX5_init_10 : decode cX5_init 10 = .ok (.putfield 11, 3) := by decide +kernel
theorem dX5_init_13 : decode cX5_init 13 = .ok (.aload_n 0, 1) := by decide +kernel
theorem dX5_init_14 : decode cX5_init 14 = .ok (.bipush 12, 2) := by decide +kernel
theorem dX5_init_16 : decode cX5_init 16 = .ok (.anewarray 17, 3) := by decide +kernel
theorem dX5_init_19 : decode cX5_init 19 = .ok (.putfield 19, 3) := by decide +kernel
theorem dX5_init_22 : decode cX5_init 22 = .ok (.aload_n 0, 1) := by decide +kernel
theorem dX5_init_23 : decode cX5_init 23 = .ok (.new 23, 3) := by decide +kernel
theorem dX5_init_26 : decode cX5_init 26 = .ok (.dup, 1) := by decide +kernel
theorem dX5_init_27 : decode cX5_init 27 = .ok (.invokespecial 25, 3) := by decide +kernel
theorem dX5_init_30 : decode cX5_init 30 = .ok (.putfield 26, 3) := by decide +kernel
theorem dX5_init_33 : decode cX5_init 33 = .ok (.aload_n 0, 1) := by decide +kernel
theorem dX5_init_34 : decode cX5_init 34 = .ok (.iconst 4, 1) := by decide +kernel
theorem dX5_init_35 : decode cX5_init 35 = .ok (.anewarray 30, 3) := by decide +kernel
theorem dX5_init_38 : decode cX5_init 38 = .ok (.putfield 32, 3) := by decide +kernel
theorem dX5_init_41 : decode cX5_init 41 = .ok (.aload_n 0, 1) := by decide +kernel
theorem dX5_init_42 : decode cX5_init 42 = .ok (.iconst 1, 1) := by decide +kernel
theorem dX5_init_43 : decode cX5_init 43 = .ok (.putfield 36, 3) := by decide +kernel
theorem dX5_init_46 : decode cX5_init 46 = .ok (.aload_n 0, 1) := by decide +kernel
theorem dX5_init_47 : decode cX5_init 47 = .ok (.iconst 0, 1) := by decide +kernel
theorem dX5_init_48 : decode cX5_init 48 = .ok (.putfield 40, 3) := by decide +kernel
theorem dX5_init_51 : decode cX5_init 51 = .ok (.aload_n 0, 1) := by decide +kernel
theorem dX5_init_52 : decode cX5_init 52 = .ok (.iconst 0, 1) := by decide +kernel
theorem dX5_init_53 : decode cX5_init 53 = .ok (.putfield 43, 3) := by decide +kernel
theorem dX5_init_56 : decode cX5_init 56 = .ok (.iconst 0, 1) := by decide +kernel
theorem dX5_init_57 : decode cX5_init 57 = .ok (.istore_n 1, 1) := by decide +kernel
theorem dX5_init_58 : decode cX5_init 58 = .ok (.iload_n 1, 1) := by decide +kernel
theorem dX5_init_59 : decode cX5_init 59 = .ok (.bipush 6, 2) := by decide +kernel
theorem dX5_init_61 : decode cX5_init 61 = .ok (.if_icmp .ge 31, 3) := by decide +kernel
theorem dX5_init_64 : decode cX5_init 64 = .ok (.aload_n 0, 1) := by decide +kernel
theorem dX5_init_65 : decode cX5_init 65 = .ok (.getfield 11, 3) := by decide +kernel
theorem dX5_init_68 : decode cX5_init 68 = .ok (.iload_n 1, 1) := by decide +kernel
theorem dX5_init_69 : decode cX5_init 69 = .ok (.new 9, 3) := by decide +kernel
theorem dX5_init_72 : decode cX5_init 72 = .ok (.dup, 1) := by decide +kernel
theorem dX5_init_73 : decode cX5_init 73 = .ok (.iload_n 1, 1) := by decide +kernel
theorem dX5_init_74 : decode cX5_init 74 = .ok (.ifCond .ne 7, 3) := by decide +kernel
theorem dX5_init_77 : decode cX5_init 77 = .ok (.iconst 1, 1) := by decide +kernel
theorem dX5_init_78 : decode cX5_init 78 = .ok (.goto 4, 3) := by decide +kernel
theorem dX5_init_81 : decode cX5_init 81 = .ok (.iconst 0, 1) := by decide +kernel
theorem dX5_init_82 : decode cX5_init 82 = .ok (.invokespecial 46, 3) := by decide +kernel
theorem dX5_init_85 : decode cX5_init 85 = .ok (.aastore, 1) := by decide +kernel
theorem dX5_init_86 : decode cX5_init 86 = .ok (.iinc 1 1, 3) := by decide +kernel
theorem dX5_init_89 : decode cX5_init 89 = .ok (.goto (-31), 3) := by decide +kernel
theorem dX5_init_92 : decode cX5_init 92 = .ok (.iconst 0, 1) := by decide +kernel
theorem dX5_init_93 : decode cX5_init 93 = .ok (.istore_n 1, 1) := by decide +kernel
theorem dX5_init_94 : decode cX5_init 94 = .ok (.iload_n 1, 1) := by decide +kernel
theorem dX5_init_95 : decode cX5_init 95 = .ok (.bipush 12, 2) := by decide +kernel
theorem dX5_init_97 : decode cX5_init 97 = .ok (.if_icmp .ge 22, 3) := by decide +kernel
theorem dX5_init_100 : decode cX5_init 100 = .ok (.aload_n 0, 1) := by decide +kernel
theorem dX5_init_101 : decode cX5_init 101 = .ok (.getfield 19, 3) := by decide +kernel
theorem dX5_init_104 : decode cX5_init 104 = .ok (.iload_n 1, 1) := by decide +kernel
theorem dX5_init_105 : decode cX5_init 105 = .ok (.new 17, 3) := by decide +kernel
theorem dX5_init_108 : decode cX5_init 108 = .ok (.dup, 1) := by decide +kernel
theorem dX5_init_109 : decode cX5_init 109 = .ok (.invokespecial 49, 3) := by decide +kernel
theorem dX5_init_112 : decode cX5_init 112 = .ok (.aastore, 1) := by decide +kernel
theorem dX5_init_113 : decode cX5_init 113 = .ok (.iinc 1 1, 3) := by decide +kernel
theorem dX5_init_116 : decode cX5_init 116 = .ok (.goto (-22), 3) := by decide +kernel
theorem dX5_init_119 : decode cX5_init 119 = .ok (.iconst 0, 1) := by decide +kernel
theorem dX5_init_120 : decode cX5_init 120 = .ok (.istore_n 1, 1) := by decide +kernel
theorem dX5_init_121 : decode cX5_init 121 = .ok (.iload_n 1, 1) := by decide +kernel
theorem dX5_init_122 : decode cX5_init 122 = .ok (.iconst 4, 1) := by decide +kernel
theorem dX5_init_123 : decode cX5_init 123 = .ok (.if_icmp .ge 26, 3) := by decide +kernel
theorem dX5_init_126 : decode cX5_init 126 = .ok (.aload_n 0, 1) := by decide +kernel
theorem dX5_init_127 : decode cX5_init 127 = .ok (.getfield 32, 3) := by decide +kernel
theorem dX5_init_130 : decode cX5_init 130 = .ok (.iload_n 1, 1) := by decide +kernel
theorem dX5_init_131 : decode cX5_init 131 = .ok (.new 30, 3) := by decide +kernel
theorem dX5_init_134 : decode cX5_init 134 = .ok (.dup, 1) := by decide +kernel
theorem dX5_init_135 : decode cX5_init 135 = .ok (.iload_n 1, 1) := by decide +kernel
theorem dX5_init_136 : decode cX5_init 136 = .ok (.bipush 32, 2) := by decide +kernel
theorem dX5_init_138 : decode cX5_init 138 = .ok (.imul, 1) := by decide +kernel
theorem dX5_init_139 : decode cX5_init 139 = .ok (.invokespecial 50, 3) := by decide +kernel
theorem dX5_init_142 : decode cX5_init 142 = .ok (.aastore, 1) := by decide +kernel
theorem dX5_init_143 : decode cX5_init 143 = .ok (.iinc 1 1, 3) := by decide +kernel
theorem dX5_init_146 : decode cX5_init 146 = .ok (.goto (-25), 3) := by decide +kernel
theorem dX5_init_149 : decode cX5_init 149 = .ok (.return_, 1) := by decide +kernel
theorem dX5_copyFrom_0 : decode cX5_copyFrom 0 = .ok (.iconst 0, 1) := by decide +kernel
theorem dX5_copyFrom_1 : decode cX5_copyFrom 1 = .ok (.istore_n 2, 1) := by decide +kernel
theorem dX5_copyFrom_2 : decode cX5_copyFrom 2 = .ok (.iload_n 2, 1) := by decide +kernel
theorem dX5_copyFrom_3 : decode cX5_copyFrom 3 = .ok (.bipush 6, 2) := by decide +kernel
theorem dX5_copyFrom_5 : decode cX5_copyFrom 5 = .ok (.if_icmp .ge 24, 3) := by decide +kernel
theorem dX5_copyFrom_8 : decode cX5_copyFrom 8 = .ok (.aload_n 0, 1) := by decide +kernel
theorem dX5_copyFrom_9 : decode cX5_copyFrom 9 = .ok (.getfield 11, 3) := by decide +kernel
theorem dX5_copyFrom_12 : decode cX5_copyFrom 12 = .ok (.iload_n 2, 1) := by decide +kernel
theorem dX5_copyFrom_13 : decode cX5_copyFrom 13 = .ok (.aaload, 1) := by decide +kernel
theorem dX5_copyFrom_14 : decode cX5_copyFrom 14 = .ok (.aload_n 1, 1) := by decide +kernel
theorem dX5_copyFrom_15 : decode cX5_copyFrom 15 = .ok (.getfield 11, 3) := by decide +kernel
theorem dX5_copyFrom_18 : decode cX5_copyFrom 18 = .ok (.iload_n 2, 1) := by decide +kernel
theorem dX5_copyFrom_19 : decode cX5_copyFrom 19 = .ok (.aaload, 1) := by decide +kernel
theorem dX5_copyFrom_20 : decode cX5_copyFrom 20 = .ok (.invokevirtual 53, 3) := by decide +kernel
theorem dX5_copyFrom_23 : decode cX5_copyFrom 23 = .ok (.iinc 2 1, 3) := by decide +kernel
theorem dX5_copyFrom_26 : decode cX5_copyFrom 26 = .ok (.goto (-24), 3) := by decide +kernel
theorem dX5_copyFrom_29 : decode cX5_copyFrom 29 = .ok (.iconst 0, 1) := by decide +kernel
theorem dX5_copyFrom_30 : decode cX5_copyFrom 30 = .ok (.istore_n 2, 1) := by decide +kernel
theorem dX5_copyFrom_31 : decode cX5_copyFrom 31 = .ok (.iload_n 2, 1) := by decide +kernel
theorem dX5_copyFrom_32 : decode cX5_copyFrom 32 = .ok (.bipush 12, 2) := by decide +kernel
theorem dX5_copyFrom_34 : decode cX5_copyFrom 34 = .ok (.if_icmp .ge 24, 3) := by decide +kernel
theorem dX5_copyFrom_37 : decode cX5_copyFrom 37 = .ok (.aload_n 0, 1) := by decide +kernel
theorem dX5_copyFrom_38 : decode cX5_copyFrom 38 = .ok (.getfield 19, 3) := by decide +kernel
theorem dX5_copyFrom_41 : decode cX5_copyFrom 41 = .ok (.iload_n 2, 1) := by decide +kernel
theorem dX5_copyFrom_42 : decode cX5_copyFrom 42 = .ok (.aaload, 1) := by decide +kernel
theorem dX5_copyFrom_43 : decode cX5_copyFrom 43 = .ok (.aload_n 1, 1) := by decide +kernel
theorem dX5_copyFrom_44 : decode cX5_copyFrom 44 = .ok (.getfield 19, 3) := by decide +kernel
theorem dX5_copyFrom_47 : decode cX5_copyFrom 47 = .ok (.iload_n 2, 1) := by decide +kernel
theorem dX5_copyFrom_48 : decode cX5_copyFrom 48 = .ok (.aaload, 1) := by decide +kernel
theorem dX5_copyFrom_49 : decode cX5_copyFrom 49 = .ok (.invokevirtual 57, 3) := by decide +kernel
theorem dX5_copyFrom_52 : decode cX5_copyFrom 52 = .ok (.iinc 2 1, 3) := by decide +kernel
theorem dX5_copyFrom_55 : decode cX5_copyFrom 55 = .ok (.goto (-24), 3) := by decide +kernel
theorem dX5_copyFrom_58 : decode cX5_copyFrom 58 = .ok (.aload_n 0, 1) := by decide +kernel
theorem dX5_copyFrom_59 : decode cX5_copyFrom 59 = .ok (.getfield 26, 3) := by decide +kernel
theorem dX5_copyFrom_62 : decode cX5_copyFrom 62 = .ok (.aload_n 1, 1) := by decide +kernel
theorem dX5_copyFrom_63 : decode cX5_copyFrom 63 = .ok (.getfield 26, 3) := by decide +kernel
theorem dX5_copyFrom_66 : decode cX5_copyFrom 66 = .ok (.invokevirtual 60, 3) := by decide +kernel
theorem dX5_copyFrom_69 : decode cX5_copyFrom 69 = .ok (.iconst 0, 1) := by decide +kernel
theorem dX5_copyFrom_70 : decode cX5_copyFrom 70 = .ok (.istore_n 2, 1) := by decide +kernel
theorem dX5_copyFrom_71 : decode cX5_copyFrom 71 = .ok (.iload_n 2, 1) := by decide +kernel
theorem dX5_copyFrom_72 : decode cX5_copyFrom 72 = .ok (.iconst 4, 1) := by decide +kernel
theorem dX5_copyFrom_73 : decode cX5_copyFrom 73 = .ok (.if_icmp .ge 24, 3) := by decide +kernel
theorem dX5_copyFrom_76 : decode cX5_copyFrom 76 = .ok (.aload_n 0, 1) := by decide +kernel
theorem dX5_copyFrom_77 : decode cX5_copyFrom 77 = .ok (.getfield 32, 3) := by decide +kernel
theorem dX5_copyFrom_80 : decode cX5_copyFrom 80 = .ok (.iload_n 2, 1) := by decide +kernel
theorem dX5_copyFrom_81 : decode cX5_copyFrom 81 = .ok (.aaload, 1) := by decide +kernel
theorem dX5_copyFrom_82 : decode cX5_copyFrom 82 = .ok (.aload_n 1, 1) := by decide +kernel
theorem dX5_copyFrom_83 : decode cX5_copyFrom 83 = .ok (.getfield 32, 3) := by decide +kernel
theorem dX5_copyFrom_86 : decode cX5_copyFrom 86 = .ok (.iload_n 2, 1) := by decide +kernel
theorem dX5_copyFrom_87 : decode cX5_copyFrom 87 = .ok (.aaload, 1) := by decide +kernel
theorem dX5_copyFrom_88 : decode cX5_copyFrom 88 = .ok (.invokevirtual 63, 3) := by decide +kernel
theorem dX5_copyFrom_91 : decode cX5_copyFrom 91 = .ok (.iinc 2 1, 3) := by decide +kernel
theorem dX5_copyFrom_94 : decode cX5_copyFrom 94 = .ok (.goto (-23), 3) := by decide +kernel
theorem dX5_copyFrom_97 : decode cX5_copyFrom 97 = .ok (.aload_n 0, 1) := by decide +kernel
theorem dX5_copyFrom_98 : decode cX5_copyFrom 98 = .ok (.aload_n 1, 1) := by decide +kernel
theorem dX5_copyFrom_99 : decode cX5_copyFrom 99 = .ok (.getfield 36, 3) := by decide +kernel
theorem dX5_copyFrom_102 : decode cX5_copyFrom 102 = .ok (.putfield 36, 3) := by decide +kernel
theorem dX5_copyFrom_105 : decode cX5_copyFrom 105 = .ok (.aload_n 0, 1) := by decide +kernel
theorem dX5_copyFrom_106 : decode cX5_copyFrom 106 = .ok (.aload_n 1, 1) := by decide +kernel
theorem dX5_copyFrom_107 : decode cX5_copyFrom 107 = .ok (.getfield 40, 3) := by decide +kernel
theorem dX5_copyFrom_110 : decode cX5_copyFrom 110 = .ok (.putfield 40, 3) := by decide +kernel
theorem dX5_copyFrom_113 : decode cX5_copyFrom 113 = .ok (.aload_n 0, 1) := by decide +kernel
theorem dX5_copyFrom_114 : decode cX5_copyFrom 114 = .ok (.aload_n 1, 1) := by decide +kernel
theorem dX5_copyFrom_115 : decode cX5_copyFrom 115 = .ok (.getfield 43, 3) := by decide +kernel
theorem dX5_copyFrom_118 : decode cX5_copyFrom 118 = .ok (.putfield 43, 3) := by decide +kernel
theorem dX5_copyFrom_121 : decode cX5_copyFrom 121 = .ok (.return_, 1) := by decide +kernel
theorem dX5_findDataset_0 : decode cX5_findDataset 0 = .ok (.iload_n 1, 1) := by decide +kernel
theorem dX5_findDataset_1 : decode cX5_findDataset 1 = .ok (.ifCond .lt 24, 3) := by decide +kernel
theorem dX5_findDataset_4 : decode cX5_findDataset 4 = .ok (.iload_n 1, 1) := by decide +kernel
theorem dX5_findDataset_5 : decode cX5_findDataset 5 = .ok (.aload_n 0, 1) := by decide +kernel
theorem dX5_findDataset_6 : decode cX5_findDataset 6 = .ok (.getfield 11, 3) := by decide +kernel
theorem dX5_findDataset_9 : decode cX5_findDataset 9 = .ok (.arraylength, 1) := by decide +kernel
theorem dX5_findDataset_10 : decode cX5_findDataset 10 = .ok (.if_icmp .ge 15, 3) := by decide +kernel
theorem dX5_findDataset_13 : decode cX5_findDataset 13 = .ok (.aload_n 0, 1) := by decide +kernel
theorem dX5_findDataset_14 : decode cX5_findDataset 14 = .ok (.getfield 11, 3) := by decide +kernel
theorem dX5_findDataset_17 : decode cX5_findDataset 17 = .ok (.iload_n 1, 1) := by decide +kernel
theorem dX5_findDataset_18 : decode cX5_findDataset 18 = .ok (.aaload, 1) := by decide +kernel
theorem dX5_findDataset_19 : decode cX5_findDataset 19 = .ok (.getfield 66, 3) := by decide +kernel
theorem dX5_findDataset_22 : decode cX5_findDataset 22 = .ok (.ifCond .ne 5, 3) := by decide +kernel
theorem dX5_findDataset_25 : decode cX5_findDataset 25 = .ok (.aconst_null, 1) := by decide +kernel
theorem dX5_findDataset_26 : decode cX5_findDataset 26 = .ok (.areturn, 1) := by decide +kernel
theorem dX5_findDataset_27 : decode cX5_findDataset 27 = .ok (.aload_n 0, 1) := by decide +kernel
theorem dX5_findDataset_28 : decode cX5_findDataset 28 = .ok (.getfield 11, 3) := by decide +kernel
theorem dX5_findDataset_31 : decode cX5_findDataset 31 = .ok (.iload_n 1, 1) := by decide +kernel
theorem dX5_findDataset_32 : decode cX5_findDataset 32 = .ok (.aaload, 1) := by decide +kernel
theorem dX5_findDataset_33 : decode cX5_findDataset 33 = .ok (.areturn, 1) := by decide +kernel
theorem dX5_findSnapshot_0 : decode cX5_findSnapshot 0 = .ok (.iconst 0, 1) := by decide +kernel
theorem dX5_findSnapshot_1 : decode cX5_findSnapshot 1 = .ok (.istore_n 2, 1) := by decide +kernel
theorem dX5_findSnapshot_2 : decode cX5_findSnapshot 2 = .ok (.iload_n 2, 1) := by decide +kernel
theorem dX5_findSnapshot_3 : decode cX5_findSnapshot 3 = .ok (.bipush 12, 2) := by decide +kernel
theorem dX5_findSnapshot_5 : decode cX5_findSnapshot 5 = .ok (.if_icmp .ge 41, 3) := by decide +kernel
theorem dX5_findSnapshot_8 : decode cX5_findSnapshot 8 = .ok (.aload_n 0, 1) := by decide +kernel
theorem dX5_findSnapshot_9 : decode cX5_findSnapshot 9 = .ok (.getfield 19, 3) := by decide +kernel
theorem dX5_findSnapshot_12 : decode cX5_findSnapshot 12 = .ok (.iload_n 2, 1) := by decide +kernel
theorem dX5_findSnapshot_13 : decode cX5_findSnapshot 13 = .ok (.aaload, 1) := by decide +kernel
theorem dX5_findSnapshot_14 : decode cX5_findSnapshot 14 = .ok (.getfield 70, 3) := by decide +kernel
theorem dX5_findSnapshot_17 : decode cX5_findSnapshot 17 = .ok (.ifCond .eq 23, 3) := by decide +kernel
theorem dX5_findSnapshot_20 : decode cX5_findSnapshot 20 = .ok (.aload_n 0, 1) := by decide +kernel
theorem dX5_findSnapshot_21 : decode cX5_findSnapshot 21 = .ok (.getfield 19, 3) := by decide +kernel
theorem dX5_findSnapshot_24 : decode cX5_findSnapshot 24 = .ok (.iload_n 2, 1) := by decide +kernel
theorem dX5_findSnapshot_25 : decode cX5_findSnapshot 25 = .ok (.aaload, 1) := by decide +kernel
theorem dX5_findSnapshot_26 : decode cX5_findSnapshot 26 = .ok (.getfield 71, 3) := by decide +kernel
theorem dX5_findSnapshot_29 : decode cX5_findSnapshot 29 = .ok (.iload_n 1, 1) := by decide +kernel
theorem dX5_findSnapshot_30 : decode cX5_findSnapshot 30 = .ok (.if_icmp .ne 10, 3) := by decide +kernel
theorem dX5_findSnapshot_33 : decode cX5_findSnapshot 33 = .ok (.aload_n 0, 1) := by decide +kernel
theorem dX5_findSnapshot_34 : decode cX5_findSnapshot 34 = .ok (.getfield 19, 3) := by decide +kernel
theorem dX5_findSnapshot_37 : decode cX5_findSnapshot 37 = .ok (.iload_n 2, 1) := by decide +kernel
theorem dX5_findSnapshot_38 : decode cX5_findSnapshot 38 = .ok (.aaload, 1) := by decide +kernel
theorem dX5_findSnapshot_39 : decode cX5_findSnapshot 39 = .ok (.areturn, 1) := by decide +kernel
theorem dX5_findSnapshot_40 : decode cX5_findSnapshot 40 = .ok (.iinc 2 1, 3) := by decide +kernel
theorem dX5_findSnapshot_43 : decode cX5_findSnapshot 43 = .ok (.goto (-41), 3) := by decide +kernel
theorem dX5_findSnapshot_46 : decode cX5_findSnapshot 46 = .ok (.aconst_null, 1) := by decide +kernel
theorem dX5_findSnapshot_47 : decode cX5_findSnapshot 47 = .ok (.areturn, 1) := by decide +kernel
theorem dX5_snapshotOfRank_0 : decode cX5_snapshotOfRank 0 = .ok (.iconst 0, 1) := by decide +kernel
theorem dX5_snapshotOfRank_1 : decode cX5_snapshotOfRank 1 = .ok (.istore_n 3, 1) := by decide +kernel
theorem dX5_snapshotOfRank_2 : decode cX5_snapshotOfRank 2 = .ok (.iload_n 3, 1) := by decide +kernel
theorem dX5_snapshotOfRank_3 : decode cX5_snapshotOfRank 3 = .ok (.bipush 12, 2) := by decide +kernel
theorem dX5_snapshotOfRank_5 : decode cX5_snapshotOfRank 5 = .ok (.if_icmp .ge 42, 3) := by decide +kernel
theorem dX5_snapshotOfRank_8 : decode cX5_snapshotOfRank 8 = .ok (.aload_n 0, 1) := by decide +kernel
theorem dX5_snapshotOfRank_9 : decode cX5_snapshotOfRank 9 = .ok (.getfield 19, 3) := by decide +kernel
theorem dX5_snapshotOfRank_12 : decode cX5_snapshotOfRank 12 = .ok (.iload_n 3, 1) := by decide +kernel
theorem dX5_snapshotOfRank_13 : decode cX5_snapshotOfRank 13 = .ok (.aaload, 1) := by decide +kernel
theorem dX5_snapshotOfRank_14 : decode cX5_snapshotOfRank 14 = .ok (.iload_n 1, 1) := by decide +kernel
theorem dX5_snapshotOfRank_15 : decode cX5_snapshotOfRank 15 = .ok (.invokevirtual 72, 3) := by decide +kernel
theorem dX5_snapshotOfRank_18 : decode cX5_snapshotOfRank 18 = .ok (.ifCond .eq 23, 3) := by decide +kernel
theorem dX5_snapshotOfRank_21 : decode cX5_snapshotOfRank 21 = .ok (.aload_n 0, 1) := by decide +kernel
theorem dX5_snapshotOfRank_22 : decode cX5_snapshotOfRank 22 = .ok (.getfield 19, 3) := by decide +kernel
theorem dX5_snapshotOfRank_25 : decode cX5_snapshotOfRank 25 = .ok (.iload_n 3, 1) := by decide +kernel
theorem dX5_snapshotOfRank_26 : decode cX5_snapshotOfRank 26 = .ok (.aaload, 1) := by decide +kernel
theorem dX5_snapshotOfRank_27 : decode cX5_snapshotOfRank 27 = .ok (.getfield 76, 3) := by decide +kernel
theorem dX5_snapshotOfRank_30 : decode cX5_snapshotOfRank 30 = .ok (.iload_n 2, 1) := by decide +kernel
theorem dX5_snapshotOfRank_31 : decode cX5_snapshotOfRank 31 = .ok (.if_icmp .ne 10, 3) := by decide +kernel
theorem dX5_snapshotOfRank_34 : decode cX5_snapshotOfRank 34 = .ok (.aload_n 0, 1) := by decide +kernel
theorem dX5_snapshotOfRank_35 : decode cX5_snapshotOfRank 35 = .ok (.getfield 19, 3) := by decide +kernel
theorem dX5_snapshotOfRank_38 : decode cX5_snapshotOfRank 38 = .ok (.iload_n 3, 1) := by decide +kernel
theorem dX5_snapshotOfRank_39 : decode cX5_snapshotOfRank 39 = .ok (.aaload, 1) := by decide +kernel
theorem dX5_snapshotOfRank_40 : decode cX5_snapshotOfRank 40 = .ok (.areturn, 1) := by decide +kernel
theorem dX5_snapshotOfRank_41 : decode cX5_snapshotOfRank 41 = .ok (.iinc 3 1, 3) := by decide +kernel
theorem dX5_snapshotOfRank_44 : decode cX5_snapshotOfRank 44 = .ok (.goto (-42), 3) := by decide +kernel
theorem dX5_snapshotOfRank_47 : decode cX5_snapshotOfRank 47 = .ok (.aconst_null, 1) := by decide +kernel
theorem dX5_snapshotOfRank_48 : decode cX5_snapshotOfRank 48 = .ok (.areturn, 1) := by decide +kernel
theorem dX5_unusedSnapshot_0 : decode cX5_unusedSnapshot 0 = .ok (.iconst 0, 1) := by decide +kernel
theorem dX5_unusedSnapshot_1 : decode cX5_unusedSnapshot 1 = .ok (.istore_n 1, 1) := by decide +kernel
theorem dX5_unusedSnapshot_2 : decode cX5_unusedSnapshot 2 = .ok (.iload_n 1, 1) := by decide +kernel
theorem dX5_unusedSnapshot_3 : decode cX5_unusedSnapshot 3 = .ok (.bipush 12, 2) := by decide +kernel
theorem dX5_unusedSnapshot_5 : decode cX5_unusedSnapshot 5 = .ok (.if_icmp .ge 28, 3) := by decide +kernel
theorem dX5_unusedSnapshot_8 : decode cX5_unusedSnapshot 8 = .ok (.aload_n 0, 1) := by decide +kernel
theorem dX5_unusedSnapshot_9 : decode cX5_unusedSnapshot 9 = .ok (.getfield 19, 3) := by decide +kernel
theorem dX5_unusedSnapshot_12 : decode cX5_unusedSnapshot 12 = .ok (.iload_n 1, 1) := by decide +kernel
theorem dX5_unusedSnapshot_13 : decode cX5_unusedSnapshot 13 = .ok (.aaload, 1) := by decide +kernel
theorem dX5_unusedSnapshot_14 : decode cX5_unusedSnapshot 14 = .ok (.getfield 70, 3) := by decide +kernel
theorem dX5_unusedSnapshot_17 : decode cX5_unusedSnapshot 17 = .ok (.ifCond .ne 10, 3) := by decide +kernel
theorem dX5_unusedSnapshot_20 : decode cX5_unusedSnapshot 20 = .ok (.aload_n 0, 1) := by decide +kernel
theorem dX5_unusedSnapshot_21 : decode cX5_unusedSnapshot 21 = .ok (.getfield 19, 3) := by decide +kernel
theorem dX5_unusedSnapshot_24 : decode cX5_unusedSnapshot 24 = .ok (.iload_n 1, 1) := by decide +kernel
theorem dX5_unusedSnapshot_25 : decode cX5_unusedSnapshot 25 = .ok (.aaload, 1) := by decide +kernel
theorem dX5_unusedSnapshot_26 : decode cX5_unusedSnapshot 26 = .ok (.areturn, 1) := by decide +kernel
theorem dX5_unusedSnapshot_27 : decode cX5_unusedSnapshot 27 = .ok (.iinc 1 1, 3) := by decide +kernel
theorem dX5_unusedSnapshot_30 : decode cX5_unusedSnapshot 30 = .ok (.goto (-28), 3) := by decide +kernel
theorem dX5_unusedSnapshot_33 : decode cX5_unusedSnapshot 33 = .ok (.aconst_null, 1) := by decide +kernel
theorem dX5_unusedSnapshot_34 : decode cX5_unusedSnapshot 34 = .ok (.areturn, 1) := by decide +kernel
theorem dX5_unusedDataset_0 : decode cX5_unusedDataset 0 = .ok (.iconst 0, 1) := by decide +kernel
theorem dX5_unusedDataset_1 : decode cX5_unusedDataset 1 = .ok (.istore_n 1, 1) := by decide +kernel
theorem dX5_unusedDataset_2 : decode cX5_unusedDataset 2 = .ok (.iload_n 1, 1) := by decide +kernel
theorem dX5_unusedDataset_3 : decode cX5_unusedDataset 3 = .ok (.bipush 6, 2) := by decide +kernel
theorem dX5_unusedDataset_5 : decode cX5_unusedDataset 5 = .ok (.if_icmp .ge 23, 3) := by decide +kernel
theorem dX5_unusedDataset_8 : decode cX5_unusedDataset 8 = .ok (.aload_n 0, 1) := by decide +kernel
theorem dX5_unusedDataset_9 : decode cX5_unusedDataset 9 = .ok (.getfield 11, 3) := by decide +kernel
theorem dX5_unusedDataset_12 : decode cX5_unusedDataset 12 = .ok (.iload_n 1, 1) := by decide +kernel
theorem dX5_unusedDataset_13 : decode cX5_unusedDataset 13 = .ok (.aaload, 1) := by decide +kernel
theorem dX5_unusedDataset_14 : decode cX5_unusedDataset 14 = .ok (.getfield 66, 3) := by decide +kernel
theorem dX5_unusedDataset_17 : decode cX5_unusedDataset 17 = .ok (.ifCond .ne 5, 3) := by decide +kernel
theorem dX5_unusedDataset_20 : decode cX5_unusedDataset 20 = .ok (.iload_n 1, 1) := by decide +kernel
theorem dX5_unusedDataset_21 : decode cX5_unusedDataset 21 = .ok (.ireturn, 1) := by decide +kernel
theorem dX5_unusedDataset_22 : decode cX5_unusedDataset 22 = .ok (.iinc 1 1, 3) := by decide +kernel
theorem dX5_unusedDataset_25 : decode cX5_unusedDataset 25 = .ok (.goto (-23), 3) := by decide +kernel
theorem dX5_unusedDataset_28 : decode cX5_unusedDataset 28 = .ok (.iconst (-1), 1) := by decide +kernel
theorem dX5_unusedDataset_29 : decode cX5_unusedDataset 29 = .ok (.ireturn, 1) := by decide +kernel
theorem dX5_countDatasets_0 : decode cX5_countDatasets 0 = .ok (.iconst 0, 1) := by decide +kernel
theorem dX5_countDatasets_1 : decode cX5_countDatasets 1 = .ok (.istore_n 1, 1) := by decide +kernel
theorem dX5_countDatasets_2 : decode cX5_countDatasets 2 = .ok (.iconst 0, 1) := by decide +kernel
theorem dX5_countDatasets_3 : decode cX5_countDatasets 3 = .ok (.istore_n 2, 1) := by decide +kernel
theorem dX5_countDatasets_4 : decode cX5_countDatasets 4 = .ok (.iload_n 2, 1) := by decide +kernel
theorem dX5_countDatasets_5 : decode cX5_countDatasets 5 = .ok (.bipush 6, 2) := by decide +kernel
theorem dX5_countDatasets_7 : decode cX5_countDatasets 7 = .ok (.if_icmp .ge 24, 3) := by decide +kernel
theorem dX5_countDatasets_10 : decode cX5_countDatasets 10 = .ok (.aload_n 0, 1) := by decide +kernel
theorem dX5_countDatasets_11 : decode cX5_countDatasets 11 = .ok (.getfield 11, 3) := by decide +kernel
theorem dX5_countDatasets_14 : decode cX5_countDatasets 14 = .ok (.iload_n 2, 1) := by decide +kernel
theorem dX5_countDatasets_15 : decode cX5_countDatasets 15 = .ok (.aaload, 1) := by decide +kernel
theorem dX5_countDatasets_16 : decode cX5_countDatasets 16 = .ok (.getfield 66, 3) := by decide +kernel
theorem dX5_countDatasets_19 : decode cX5_countDatasets 19 = .ok (.ifCond .eq 6, 3) := by decide +kernel
theorem dX5_countDatasets_22 : decode cX5_countDatasets 22 = .ok (.iinc 1 1, 3) := by decide +kernel
theorem dX5_countDatasets_25 : decode cX5_countDatasets 25 = .ok (.iinc 2 1, 3) := by decide +kernel
theorem dX5_countDatasets_28 : decode cX5_countDatasets 28 = .ok (.goto (-24), 3) := by decide +kernel
theorem dX5_countDatasets_31 : decode cX5_countDatasets 31 = .ok (.iload_n 1, 1) := by decide +kernel
theorem dX5_countDatasets_32 : decode cX5_countDatasets 32 = .ok (.ireturn, 1) := by decide +kernel
theorem dX5_snapshotsOf_0 : decode cX5_snapshotsOf 0 = .ok (.iconst 0, 1) := by decide +kernel
theorem dX5_snapshotsOf_1 : decode cX5_snapshotsOf 1 = .ok (.istore_n 2, 1) := by decide +kernel
theorem dX5_snapshotsOf_2 : decode cX5_snapshotsOf 2 = .ok (.iconst 0, 1) := by decide +kernel
theorem dX5_snapshotsOf_3 : decode cX5_snapshotsOf 3 = .ok (.istore_n 3, 1) := by decide +kernel
theorem dX5_snapshotsOf_4 : decode cX5_snapshotsOf 4 = .ok (.iload_n 3, 1) := by decide +kernel
theorem dX5_snapshotsOf_5 : decode cX5_snapshotsOf 5 = .ok (.bipush 12, 2) := by decide +kernel
theorem dX5_snapshotsOf_7 : decode cX5_snapshotsOf 7 = .ok (.if_icmp .ge 25, 3) := by decide +kernel
theorem dX5_snapshotsOf_10 : decode cX5_snapshotsOf 10 = .ok (.aload_n 0, 1) := by decide +kernel
theorem dX5_snapshotsOf_11 : decode cX5_snapshotsOf 11 = .ok (.getfield 19, 3) := by decide +kernel
theorem dX5_snapshotsOf_14 : decode cX5_snapshotsOf 14 = .ok (.iload_n 3, 1) := by decide +kernel
theorem dX5_snapshotsOf_15 : decode cX5_snapshotsOf 15 = .ok (.aaload, 1) := by decide +kernel
theorem dX5_snapshotsOf_16 : decode cX5_snapshotsOf 16 = .ok (.iload_n 1, 1) := by decide +kernel
theorem dX5_snapshotsOf_17 : decode cX5_snapshotsOf 17 = .ok (.invokevirtual 72, 3) := by decide +kernel
theorem dX5_snapshotsOf_20 : decode cX5_snapshotsOf 20 = .ok (.ifCond .eq 6, 3) := by decide +kernel
theorem dX5_snapshotsOf_23 : decode cX5_snapshotsOf 23 = .ok (.iinc 2 1, 3) := by decide +kernel
theorem dX5_snapshotsOf_26 : decode cX5_snapshotsOf 26 = .ok (.iinc 3 1, 3) := by decide +kernel
theorem dX5_snapshotsOf_29 : decode cX5_snapshotsOf 29 = .ok (.goto (-25), 3) := by decide +kernel
theorem dX5_snapshotsOf_32 : decode cX5_snapshotsOf 32 = .ok (.iload_n 2, 1) := by decide +kernel
theorem dX5_snapshotsOf_33 : decode cX5_snapshotsOf 33 = .ok (.ireturn, 1) := by decide +kernel
theorem dX5_isOrigin_0 : decode cX5_isOrigin 0 = .ok (.iconst 0, 1) := by decide +kernel
theorem dX5_isOrigin_1 : decode cX5_isOrigin 1 = .ok (.istore_n 2, 1) := by decide +kernel
theorem dX5_isOrigin_2 : decode cX5_isOrigin 2 = .ok (.iload_n 2, 1) := by decide +kernel
theorem dX5_isOrigin_3 : decode cX5_isOrigin 3 = .ok (.bipush 6, 2) := by decide +kernel
theorem dX5_isOrigin_5 : decode cX5_isOrigin 5 = .ok (.if_icmp .ge 36, 3) := by decide +kernel
theorem dX5_isOrigin_8 : decode cX5_isOrigin 8 = .ok (.aload_n 0, 1) := by decide +kernel
theorem dX5_isOrigin_9 : decode cX5_isOrigin 9 = .ok (.getfield 11, 3) := by decide +kernel
theorem dX5_isOrigin_12 : decode cX5_isOrigin 12 = .ok (.iload_n 2, 1) := by decide +kernel
theorem dX5_isOrigin_13 : decode cX5_isOrigin 13 = .ok (.aaload, 1) := by decide +kernel
theorem dX5_isOrigin_14 : decode cX5_isOrigin 14 = .ok (.getfield 66, 3) := by decide +kernel
theorem dX5_isOrigin_17 : decode cX5_isOrigin 17 = .ok (.ifCond .eq 18, 3) := by decide +kernel
theorem dX5_isOrigin_20 : decode cX5_isOrigin 20 = .ok (.aload_n 0, 1) := by decide +kernel
theorem dX5_isOrigin_21 : decode cX5_isOrigin 21 = .ok (.getfield 11, 3) := by decide +kernel
theorem dX5_isOrigin_24 : decode cX5_isOrigin 24 = .ok (.iload_n 2, 1) := by decide +kernel
theorem dX5_isOrigin_25 : decode cX5_isOrigin 25 = .ok (.aaload, 1) := by decide +kernel
theorem dX5_isOrigin_26 : decode cX5_isOrigin 26 = .ok (.getfield 79, 3) := by decide +kernel
theorem dX5_isOrigin_29 : decode cX5_isOrigin 29 = .ok (.iload_n 1, 1) := by decide +kernel
theorem dX5_isOrigin_30 : decode cX5_isOrigin 30 = .ok (.if_icmp .ne 5, 3) := by decide +kernel
theorem dX5_isOrigin_33 : decode cX5_isOrigin 33 = .ok (.iconst 1, 1) := by decide +kernel
theorem dX5_isOrigin_34 : decode cX5_isOrigin 34 = .ok (.ireturn, 1) := by decide +kernel
theorem dX5_isOrigin_35 : decode cX5_isOrigin 35 = .ok (.iinc 2 1, 3) := by decide +kernel
theorem dX5_isOrigin_38 : decode cX5_isOrigin 38 = .ok (.goto (-36), 3) := by decide +kernel
theorem dX5_isOrigin_41 : decode cX5_isOrigin 41 = .ok (.iconst 0, 1) := by decide +kernel
theorem dX5_isOrigin_42 : decode cX5_isOrigin 42 = .ok (.ireturn, 1) := by decide +kernel
theorem dX5_hasOriginBehind_0 : decode cX5_hasOriginBehind 0 = .ok (.iconst 0, 1) := by decide +kernel
theorem dX5_hasOriginBehind_1 : decode cX5_hasOriginBehind 1 = .ok (.istore_n 2, 1) := by decide +kernel
theorem dX5_hasOriginBehind_2 : decode cX5_hasOriginBehind 2 = .ok (.iload_n 2, 1) := by decide +kernel
theorem dX5_hasOriginBehind_3 : decode cX5_hasOriginBehind 3 = .ok (.bipush 12, 2) := by decide +kernel
theorem dX5_hasOriginBehind_5 : decode cX5_hasOriginBehind 5 = .ok (.if_icmp .ge 41, 3) := by decide +kernel
theorem dX5_hasOriginBehind_8 : decode cX5_hasOriginBehind 8 = .ok (.aload_n 0, 1) := by decide +kernel
theorem dX5_hasOriginBehind_9 : decode cX5_hasOriginBehind 9 = .ok (.aload_n 0, 1) := by decide +kernel
theorem dX5_hasOriginBehind_10 : decode cX5_hasOriginBehind 10 = .ok (.getfield 19, 3) := by decide +kernel
theorem dX5_hasOriginBehind_13 : decode cX5_hasOriginBehind 13 = .ok (.iload_n 2, 1) := by decide +kernel
theorem dX5_hasOriginBehind_14 : decode cX5_hasOriginBehind 14 = .ok (.aaload, 1) := by decide +kernel
theorem dX5_hasOriginBehind_15 : decode cX5_hasOriginBehind 15 = .ok (.aload_n 1, 1) := by decide +kernel
theorem dX5_hasOriginBehind_16 : decode cX5_hasOriginBehind 16 = .ok (.invokevirtual 82, 3) := by decide +kernel
theorem dX5_hasOriginBehind_19 : decode cX5_hasOriginBehind 19 = .ok (.ifCond .eq 21, 3) := by decide +kernel
theorem dX5_hasOriginBehind_22 : decode cX5_hasOriginBehind 22 = .ok (.aload_n 0, 1) := by decide +kernel
theorem dX5_hasOriginBehind_23 : decode cX5_hasOriginBehind 23 = .ok (.aload_n 0, 1) := by decide +kernel
theorem dX5_hasOriginBehind_24 : decode cX5_hasOriginBehind 24 = .ok (.getfield 19, 3) := by decide +kernel
theorem dX5_hasOriginBehind_27 : decode cX5_hasOriginBehind 27 = .ok (.iload_n 2, 1) := by decide +kernel
theorem dX5_hasOriginBehind_28 : decode cX5_hasOriginBehind 28 = .ok (.aaload, 1) := by decide +kernel
theorem dX5_hasOriginBehind_29 : decode cX5_hasOriginBehind 29 = .ok (.getfield 71, 3) := by decide +kernel
theorem dX5_hasOriginBehind_32 : decode cX5_hasOriginBehind 32 = .ok (.invokevirtual 86, 3) := by decide +kernel
theorem dX5_hasOriginBehind_35 : decode cX5_hasOriginBehind 35 = .ok (.ifCond .eq 5, 3) := by decide +kernel
theorem dX5_hasOriginBehind_38 : decode cX5_hasOriginBehind 38 = .ok (.iconst 1, 1) := by decide +kernel
theorem dX5_hasOriginBehind_39 : decode cX5_hasOriginBehind 39 = .ok (.ireturn, 1) := by decide +kernel
theorem dX5_hasOriginBehind_40 : decode cX5_hasOriginBehind 40 = .ok (.iinc 2 1, 3) := by decide +kernel
theorem dX5_hasOriginBehind_43 : decode cX5_hasOriginBehind 43 = .ok (.goto (-41), 3) := by decide +kernel
theorem dX5_hasOriginBehind_46 : decode cX5_hasOriginBehind 46 = .ok (.iconst 0, 1) := by decide +kernel
theorem dX5_hasOriginBehind_47 : decode cX5_hasOriginBehind 47 = .ok (.ireturn, 1) := by decide +kernel
theorem dX5_isBehind_0 : decode cX5_isBehind 0 = .ok (.aload_n 1, 1) := by decide +kernel
theorem dX5_isBehind_1 : decode cX5_isBehind 1 = .ok (.aload_n 2, 1) := by decide +kernel
theorem dX5_isBehind_2 : decode cX5_isBehind 2 = .ok (.getfield 89, 3) := by decide +kernel
theorem dX5_isBehind_5 : decode cX5_isBehind 5 = .ok (.invokevirtual 72, 3) := by decide +kernel
theorem dX5_isBehind_8 : decode cX5_isBehind 8 = .ok (.ifCond .eq 18, 3) := by decide +kernel
theorem dX5_isBehind_11 : decode cX5_isBehind 11 = .ok (.aload_n 1, 1) := by decide +kernel
theorem dX5_isBehind_12 : decode cX5_isBehind 12 = .ok (.getfield 76, 3) := by decide +kernel
theorem dX5_isBehind_15 : decode cX5_isBehind 15 = .ok (.aload_n 2, 1) := by decide +kernel
theorem dX5_isBehind_16 : decode cX5_isBehind 16 = .ok (.getfield 76, 3) := by decide +kernel
theorem dX5_isBehind_19 : decode cX5_isBehind 19 = .ok (.if_icmp .le 7, 3) := by decide +kernel
theorem dX5_isBehind_22 : decode cX5_isBehind 22 = .ok (.iconst 1, 1) := by decide +kernel
theorem dX5_isBehind_23 : decode cX5_isBehind 23 = .ok (.goto 4, 3) := by decide +kernel
theorem dX5_isBehind_26 : decode cX5_isBehind 26 = .ok (.iconst 0, 1) := by decide +kernel
theorem dX5_isBehind_27 : decode cX5_isBehind 27 = .ok (.ireturn, 1) := by decide +kernel
theorem dX5_put_0 : decode cX5_put 0 = .ok (.aload_n 0, 1) := by decide +kernel
theorem dX5_put_1 : decode cX5_put 1 = .ok (.getfield 26, 3) := by decide +kernel
theorem dX5_put_4 : decode cX5_put 4 = .ok (.aload_n 1, 1) := by decide +kernel
theorem dX5_put_5 : decode cX5_put 5 = .ok (.iload_n 2, 1) := by decide +kernel
theorem dX5_put_6 : decode cX5_put 6 = .ok (.invokevirtual 92, 3) := by decide +kernel
theorem dX5_put_9 : decode cX5_put 9 = .ok (.invokevirtual 98, 3) := by decide +kernel
theorem dX5_put_12 : decode cX5_put 12 = .ok (.aload_n 0, 1) := by decide +kernel
theorem dX5_put_13 : decode cX5_put 13 = .ok (.getfield 26, 3) := by decide +kernel
theorem dX5_put_16 : decode cX5_put 16 = .ok (.iload_n 3, 1) := by decide +kernel
theorem dX5_put_17 : decode cX5_put 17 = .ok (.invokevirtual 101, 3) := by decide +kernel
theorem dX5_put_20 : decode cX5_put 20 = .ok (.aload_n 1, 1) := by decide +kernel
theorem dX5_put_21 : decode cX5_put 21 = .ok (.iload_n 2, 1) := by decide +kernel
theorem dX5_put_22 : decode cX5_put 22 = .ok (.iload_n 3, 1) := by decide +kernel
theorem dX5_put_23 : decode cX5_put 23 = .ok (.invokevirtual 104, 3) := by decide +kernel
theorem dX5_put_26 : decode cX5_put 26 = .ok (.return_, 1) := by decide +kernel
theorem dX5_fill_0 : decode cX5_fill 0 = .ok (.iconst 0, 1) := by decide +kernel
theorem dX5_fill_1 : decode cX5_fill 1 = .ok (.istore_n 3, 1) := by decide +kernel
theorem dX5_fill_2 : decode cX5_fill 2 = .ok (.iload_n 3, 1) := by decide +kernel
theorem dX5_fill_3 : decode cX5_fill 3 = .ok (.sipush 128, 3) := by decide +kernel
theorem dX5_fill_6 : decode cX5_fill 6 = .ok (.if_icmp .ge 20, 3) := by decide +kernel
theorem dX5_fill_9 : decode cX5_fill 9 = .ok (.aload_n 0, 1) := by decide +kernel
theorem dX5_fill_10 : decode cX5_fill 10 = .ok (.aload_n 1, 1) := by decide +kernel
theorem dX5_fill_11 : decode cX5_fill 11 = .ok (.iload_n 3, 1) := by decide +kernel
theorem dX5_fill_12 : decode cX5_fill 12 = .ok (.aload_n 2, 1) := by decide +kernel
theorem dX5_fill_13 : decode cX5_fill 13 = .ok (.iload_n 3, 1) := by decide +kernel
theorem dX5_fill_14 : decode cX5_fill 14 = .ok (.invokevirtual 92, 3) := by decide +kernel
theorem dX5_fill_17 : decode cX5_fill 17 = .ok (.invokevirtual 108, 3) := by decide +kernel
theorem dX5_fill_20 : decode cX5_fill 20 = .ok (.iinc 3 1, 3) := by decide +kernel
theorem dX5_fill_23 : decode cX5_fill 23 = .ok (.goto (-21), 3) := by decide +kernel
theorem dX5_fill_26 : decode cX5_fill 26 = .ok (.return_, 1) := by decide +kernel
theorem dX5_clear_0 : decode cX5_clear 0 = .ok (.iconst 0, 1) := by decide +kernel
theorem dX5_clear_1 : decode cX5_clear 1 = .ok (.istore_n 2, 1) := by decide +kernel
theorem dX5_clear_2 : decode cX5_clear 2 = .ok (.iload_n 2, 1) := by decide +kernel
theorem dX5_clear_3 : decode cX5_clear 3 = .ok (.sipush 128, 3) := by decide +kernel
theorem dX5_clear_6 : decode cX5_clear 6 = .ok (.if_icmp .ge 16, 3) := by decide +kernel
theorem dX5_clear_9 : decode cX5_clear 9 = .ok (.aload_n 0, 1) := by decide +kernel
theorem dX5_clear_10 : decode cX5_clear 10 = .ok (.aload_n 1, 1) := by decide +kernel
theorem dX5_clear_11 : decode cX5_clear 11 = .ok (.iload_n 2, 1) := by decide +kernel
theorem dX5_clear_12 : decode cX5_clear 12 = .ok (.iconst (-1), 1) := by decide +kernel
theorem dX5_clear_13 : decode cX5_clear 13 = .ok (.invokevirtual 108, 3) := by decide +kernel
theorem dX5_clear_16 : decode cX5_clear 16 = .ok (.iinc 2 1, 3) := by decide +kernel
theorem dX5_clear_19 : decode cX5_clear 19 = .ok (.goto (-17), 3) := by decide +kernel
theorem dX5_clear_22 : decode cX5_clear 22 = .ok (.return_, 1) := by decide +kernel
theorem dX5_settle_0 : decode cX5_settle 0 = .ok (.aload_n 0, 1) := by decide +kernel
theorem dX5_settle_1 : decode cX5_settle 1 = .ok (.getfield 26, 3) := by decide +kernel
theorem dX5_settle_4 : decode cX5_settle 4 = .ok (.aload_n 0, 1) := by decide +kernel
theorem dX5_settle_5 : decode cX5_settle 5 = .ok (.getfield 36, 3) := by decide +kernel
theorem dX5_settle_8 : decode cX5_settle 8 = .ok (.invokevirtual 112, 3) := by decide +kernel
theorem dX5_settle_11 : decode cX5_settle 11 = .ok (.ireturn, 1) := by decide +kernel
theorem dX5_take_0 : decode cX5_take 0 = .ok (.aload_n 1, 1) := by decide +kernel
theorem dX5_take_1 : decode cX5_take 1 = .ok (.aload_n 0, 1) := by decide +kernel
theorem dX5_take_2 : decode cX5_take 2 = .ok (.iload_n 3, 1) := by decide +kernel
theorem dX5_take_3 : decode cX5_take 3 = .ok (.invokevirtual 115, 3) := by decide +kernel
theorem dX5_take_6 : decode cX5_take 6 = .ok (.putfield 76, 3) := by decide +kernel
theorem dX5_take_9 : decode cX5_take 9 = .ok (.aload_n 1, 1) := by decide +kernel
theorem dX5_take_10 : decode cX5_take 10 = .ok (.iload_n 3, 1) := by decide +kernel
theorem dX5_take_11 : decode cX5_take 11 = .ok (.putfield 89, 3) := by decide +kernel
theorem dX5_take_14 : decode cX5_take 14 = .ok (.aload_n 1, 1) := by decide +kernel
theorem dX5_take_15 : decode cX5_take 15 = .ok (.aload_n 0, 1) := by decide +kernel
theorem dX5_take_16 : decode cX5_take 16 = .ok (.getfield 40, 3) := by decide +kernel
theorem dX5_take_19 : decode cX5_take 19 = .ok (.putfield 71, 3) := by decide +kernel
theorem dX5_take_22 : decode cX5_take 22 = .ok (.aload_n 1, 1) := by decide +kernel
theorem dX5_take_23 : decode cX5_take 23 = .ok (.aload_n 0, 1) := by decide +kernel
theorem dX5_take_24 : decode cX5_take 24 = .ok (.getfield 36, 3) := by decide +kernel
theorem dX5_take_27 : decode cX5_take 27 = .ok (.putfield 118, 3) := by decide +kernel
theorem dX5_take_30 : decode cX5_take 30 = .ok (.aload_n 1, 1) := by decide +kernel
theorem dX5_take_31 : decode cX5_take 31 = .ok (.iconst 1, 1) := by decide +kernel
theorem dX5_take_32 : decode cX5_take 32 = .ok (.putfield 70, 3) := by decide +kernel
theorem dX5_take_35 : decode cX5_take 35 = .ok (.aload_n 0, 1) := by decide +kernel
theorem dX5_take_36 : decode cX5_take 36 = .ok (.aload_n 1, 1) := by decide +kernel
theorem dX5_take_37 : decode cX5_take 37 = .ok (.getfield 121, 3) := by decide +kernel
theorem dX5_take_40 : decode cX5_take 40 = .ok (.aload_n 2, 1) := by decide +kernel
theorem dX5_take_41 : decode cX5_take 41 = .ok (.getfield 125, 3) := by decide +kernel
theorem dX5_take_44 : decode cX5_take 44 = .ok (.invokevirtual 126, 3) := by decide +kernel
theorem dX5_take_47 : decode cX5_take 47 = .ok (.aload_n 0, 1) := by decide +kernel
theorem dX5_take_48 : decode cX5_take 48 = .ok (.dup, 1) := by decide +kernel
theorem dX5_take_49 : decode cX5_take 49 = .ok (.getfield 40, 3) := by decide +kernel
theorem dX5_take_52 : decode cX5_take 52 = .ok (.iconst 1, 1) := by decide +kernel
theorem dX5_take_53 : decode cX5_take 53 = .ok (.iadd, 1) := by decide +kernel
theorem dX5_take_54 : decode cX5_take 54 = .ok (.putfield 40, 3) := by decide +kernel
theorem dX5_take_57 : decode cX5_take 57 = .ok (.return_, 1) := by decide +kernel
theorem dX5_branch_0 : decode cX5_branch 0 = .ok (.iload_n 1, 1) := by decide +kernel
theorem dX5_branch_1 : decode cX5_branch 1 = .ok (.ifCond .lt 52, 3) := by decide +kernel
theorem dX5_branch_4 : decode cX5_branch 4 = .ok (.iload_n 1, 1) := by decide +kernel
theorem dX5_branch_5 : decode cX5_branch 5 = .ok (.aload_n 0, 1) := by decide +kernel
theorem dX5_branch_6 : decode cX5_branch 6 = .ok (.getfield 11, 3) := by decide +kernel
theorem dX5_branch_9 : decode cX5_branch 9 = .ok (.arraylength, 1) := by decide +kernel
theorem dX5_branch_10 : decode cX5_branch 10 = .ok (.if_icmp .ge 43, 3) := by decide +kernel
theorem dX5_branch_13 : decode cX5_branch 13 = .ok (.aload_n 0, 1) := by decide +kernel
theorem dX5_branch_14 : decode cX5_branch 14 = .ok (.getfield 11, 3) := by decide +kernel
theorem dX5_branch_17 : decode cX5_branch 17 = .ok (.iload_n 1, 1) := by decide +kernel
theorem dX5_branch_18 : decode cX5_branch 18 = .ok (.aaload, 1) := by decide +kernel
theorem dX5_branch_19 : decode cX5_branch 19 = .ok (.iconst 1, 1) := by decide +kernel
theorem dX5_branch_20 : decode cX5_branch 20 = .ok (.putfield 66, 3) := by decide +kernel
theorem dX5_branch_23 : decode cX5_branch 23 = .ok (.aload_n 0, 1) := by decide +kernel
theorem dX5_branch_24 : decode cX5_branch 24 = .ok (.getfield 11, 3) := by decide +kernel
theorem dX5_branch_27 : decode cX5_branch 27 = .ok (.iload_n 1, 1) := by decide +kernel
theorem dX5_branch_28 : decode cX5_branch 28 = .ok (.aaload, 1) := by decide +kernel
theorem dX5_branch_29 : decode cX5_branch 29 = .ok (.aload_n 2, 1) := by decide +kernel
theorem dX5_branch_30 : decode cX5_branch 30 = .ok (.getfield 71, 3) := by decide +kernel
theorem dX5_branch_33 : decode cX5_branch 33 = .ok (.putfield 79, 3) := by decide +kernel
theorem dX5_branch_36 : decode cX5_branch 36 = .ok (.aload_n 0, 1) := by decide +kernel
theorem dX5_branch_37 : decode cX5_branch 37 = .ok (.aload_n 0, 1) := by decide +kernel
theorem dX5_branch_38 : decode cX5_branch 38 = .ok (.getfield 11, 3) := by decide +kernel
theorem dX5_branch_41 : decode cX5_branch 41 = .ok (.iload_n 1, 1) := by decide +kernel
theorem dX5_branch_42 : decode cX5_branch 42 = .ok (.aaload, 1) := by decide +kernel
theorem dX5_branch_43 : decode cX5_branch 43 = .ok (.getfield 125, 3) := by decide +kernel
theorem dX5_branch_46 : decode cX5_branch 46 = .ok (.aload_n 2, 1) := by decide +kernel
theorem dX5_branch_47 : decode cX5_branch 47 = .ok (.getfield 121, 3) := by decide +kernel
theorem dX5_branch_50 : decode cX5_branch 50 = .ok (.invokevirtual 126, 3) := by decide +kernel
theorem dX5_branch_53 : decode cX5_branch 53 = .ok (.return_, 1) := by decide +kernel
theorem dX5_drop_0 : decode cX5_drop 0 = .ok (.iconst 0, 1) := by decide +kernel
theorem dX5_drop_1 : decode cX5_drop 1 = .ok (.istore_n 2, 1) := by decide +kernel
theorem dX5_drop_2 : decode cX5_drop 2 = .ok (.iload_n 2, 1) := by decide +kernel
theorem dX5_drop_3 : decode cX5_drop 3 = .ok (.bipush 12, 2) := by decide +kernel
theorem dX5_drop_5 : decode cX5_drop 5 = .ok (.if_icmp .ge 38, 3) := by decide +kernel
theorem dX5_drop_8 : decode cX5_drop 8 = .ok (.aload_n 0, 1) := by decide +kernel
theorem dX5_drop_9 : decode cX5_drop 9 = .ok (.aload_n 0, 1) := by decide +kernel
theorem dX5_drop_10 : decode cX5_drop 10 = .ok (.getfield 19, 3) := by decide +kernel
theorem dX5_drop_13 : decode cX5_drop 13 = .ok (.iload_n 2, 1) := by decide +kernel
theorem dX5_drop_14 : decode cX5_drop 14 = .ok (.aaload, 1) := by decide +kernel
theorem dX5_drop_15 : decode cX5_drop 15 = .ok (.aload_n 1, 1) := by decide +kernel
theorem dX5_drop_16 : decode cX5_drop 16 = .ok (.invokevirtual 82, 3) := by decide +kernel
theorem dX5_drop_19 : decode cX5_drop 19 = .ok (.ifCond .eq 18, 3) := by decide +kernel
theorem dX5_drop_22 : decode cX5_drop 22 = .ok (.aload_n 0, 1) := by decide +kernel
theorem dX5_drop_23 : decode cX5_drop 23 = .ok (.getfield 19, 3) := by decide +kernel
theorem dX5_drop_26 : decode cX5_drop 26 = .ok (.iload_n 2, 1) := by decide +kernel
theorem dX5_drop_27 : decode cX5_drop 27 = .ok (.aaload, 1) := by decide +kernel
theorem dX5_drop_28 : decode cX5_drop 28 = .ok (.dup, 1) := by decide +kernel
theorem dX5_drop_29 : decode cX5_drop 29 = .ok (.getfield 76, 3) := by decide +kernel
theorem dX5_drop_32 : decode cX5_drop 32 = .ok (.iconst 1, 1) := by decide +kernel
theorem dX5_drop_33 : decode cX5_drop 33 = .ok (.isub, 1) := by decide +kernel
theorem dX5_drop_34 : decode cX5_drop 34 = .ok (.putfield 76, 3) := by decide +kernel
theorem dX5_drop_37 : decode cX5_drop 37 = .ok (.iinc 2 1, 3) := by decide +kernel
theorem dX5_drop_40 : decode cX5_drop 40 = .ok (.goto (-38), 3) := by decide +kernel
theorem dX5_drop_43 : decode cX5_drop 43 = .ok (.aload_n 0, 1) := by decide +kernel
theorem dX5_drop_44 : decode cX5_drop 44 = .ok (.aload_n 1, 1) := by decide +kernel
theorem dX5_drop_45 : decode cX5_drop 45 = .ok (.getfield 121, 3) := by decide +kernel
theorem dX5_drop_48 : decode cX5_drop 48 = .ok (.invokevirtual 130, 3) := by decide +kernel
theorem dX5_drop_51 : decode cX5_drop 51 = .ok (.aload_n 1, 1) := by decide +kernel
theorem dX5_drop_52 : decode cX5_drop 52 = .ok (.iconst 0, 1) := by decide +kernel
theorem dX5_drop_53 : decode cX5_drop 53 = .ok (.putfield 70, 3) := by decide +kernel
theorem dX5_drop_56 : decode cX5_drop 56 = .ok (.return_, 1) := by decide +kernel
theorem dX5_dropBehind_0 : decode cX5_dropBehind 0 = .ok (.iconst 0, 1) := by decide +kernel
theorem dX5_dropBehind_1 : decode cX5_dropBehind 1 = .ok (.istore_n 2, 1) := by decide +kernel
theorem dX5_dropBehind_2 : decode cX5_dropBehind 2 = .ok (.iconst 0, 1) := by decide +kernel
theorem dX5_dropBehind_3 : decode cX5_dropBehind 3 = .ok (.istore_n 3, 1) := by decide +kernel
theorem dX5_dropBehind_4 : decode cX5_dropBehind 4 = .ok (.iload_n 3, 1) := by decide +kernel
theorem dX5_dropBehind_5 : decode cX5_dropBehind 5 = .ok (.bipush 12, 2) := by decide +kernel
theorem dX5_dropBehind_7 : decode cX5_dropBehind 7 = .ok (.if_icmp .ge 36, 3) := by decide +kernel
theorem dX5_dropBehind_10 : decode cX5_dropBehind 10 = .ok (.aload_n 0, 1) := by decide +kernel
theorem dX5_dropBehind_11 : decode cX5_dropBehind 11 = .ok (.aload_n 0, 1) := by decide +kernel
theorem dX5_dropBehind_12 : decode cX5_dropBehind 12 = .ok (.getfield 19, 3) := by decide +kernel
theorem dX5_dropBehind_15 : decode cX5_dropBehind 15 = .ok (.iload_n 3, 1) := by decide +kernel
theorem dX5_dropBehind_16 : decode cX5_dropBehind 16 = .ok (.aaload, 1) := by decide +kernel
theorem dX5_dropBehind_17 : decode cX5_dropBehind 17 = .ok (.aload_n 1, 1) := by decide +kernel
theorem dX5_dropBehind_18 : decode cX5_dropBehind 18 = .ok (.invokevirtual 82, 3) := by decide +kernel
theorem dX5_dropBehind_21 : decode cX5_dropBehind 21 = .ok (.ifCond .eq 16, 3) := by decide +kernel
theorem dX5_dropBehind_24 : decode cX5_dropBehind 24 = .ok (.aload_n 0, 1) := by decide +kernel
theorem dX5_dropBehind_25 : decode cX5_dropBehind 25 = .ok (.aload_n 0, 1) := by decide +kernel
theorem dX5_dropBehind_26 : decode cX5_dropBehind 26 = .ok (.getfield 19, 3) := by decide +kernel
theorem dX5_dropBehind_29 : decode cX5_dropBehind 29 = .ok (.iload_n 3, 1) := by decide +kernel
theorem dX5_dropBehind_30 : decode cX5_dropBehind 30 = .ok (.aaload, 1) := by decide +kernel
theorem dX5_dropBehind_31 : decode cX5_dropBehind 31 = .ok (.invokevirtual 134, 3) := by decide +kernel
theorem dX5_dropBehind_34 : decode cX5_dropBehind 34 = .ok (.iinc 2 1, 3) := by decide +kernel
theorem dX5_dropBehind_37 : decode cX5_dropBehind 37 = .ok (.iinc 3 1, 3) := by decide +kernel
theorem dX5_dropBehind_40 : decode cX5_dropBehind 40 = .ok (.goto (-36), 3) := by decide +kernel
theorem dX5_dropBehind_43 : decode cX5_dropBehind 43 = .ok (.iload_n 2, 1) := by decide +kernel
theorem dX5_dropBehind_44 : decode cX5_dropBehind 44 = .ok (.ireturn, 1) := by decide +kernel
theorem dX5_handOver_0 : decode cX5_handOver 0 = .ok (.aload_n 1, 1) := by decide +kernel
theorem dX5_handOver_1 : decode cX5_handOver 1 = .ok (.getfield 89, 3) := by decide +kernel
theorem dX5_handOver_4 : decode cX5_handOver 4 = .ok (.istore_n 3, 1) := by decide +kernel
theorem dX5_handOver_5 : decode cX5_handOver 5 = .ok (.aload_n 1, 1) := by decide +kernel
theorem dX5_handOver_6 : decode cX5_handOver 6 = .ok (.getfield 76, 3) := by decide +kernel
theorem dX5_handOver_9 : decode cX5_handOver 9 = .ok (.iconst 1, 1) := by decide +kernel
theorem dX5_handOver_10 : decode cX5_handOver 10 = .ok (.iadd, 1) := by decide +kernel
theorem dX5_handOver_11 : decode cX5_handOver 11 = .ok (.istore 4, 2) := by decide +kernel
theorem dX5_handOver_13 : decode cX5_handOver 13 = .ok (.iconst 0, 1) := by decide +kernel
theorem dX5_handOver_14 : decode cX5_handOver 14 = .ok (.istore 5, 2) := by decide +kernel
theorem dX5_handOver_16 : decode cX5_handOver 16 = .ok (.iload 5, 2) := by decide +kernel
theorem dX5_handOver_18 : decode cX5_handOver 18 = .ok (.bipush 12, 2) := by decide +kernel
theorem dX5_handOver_20 : decode cX5_handOver 20 = .ok (.if_icmp .ge 117, 3) := by decide +kernel
theorem dX5_handOver_23 : decode cX5_handOver 23 = .ok (.aload_n 0, 1) := by decide +kernel
theorem dX5_handOver_24 : decode cX5_handOver 24 = .ok (.getfield 19, 3) := by decide +kernel
theorem dX5_handOver_27 : decode cX5_handOver 27 = .ok (.iload 5, 2) := by decide +kernel
theorem dX5_handOver_29 : decode cX5_handOver 29 = .ok (.aaload, 1) := by decide +kernel
theorem dX5_handOver_30 : decode cX5_handOver 30 = .ok (.iload_n 2, 1) := by decide +kernel
theorem dX5_handOver_31 : decode cX5_handOver 31 = .ok (.invokevirtual 72, 3) := by decide +kernel
theorem dX5_handOver_34 : decode cX5_handOver 34 = .ok (.ifCond .eq 23, 3) := by decide +kernel
theorem dX5_handOver_37 : decode cX5_handOver 37 = .ok (.aload_n 0, 1) := by decide +kernel
theorem dX5_handOver_38 : decode cX5_handOver 38 = .ok (.getfield 19, 3) := by decide +kernel
theorem dX5_handOver_41 : decode cX5_handOver 41 = .ok (.iload 5, 2) := by decide +kernel
theorem dX5_handOver_43 : decode cX5_handOver 43 = .ok (.aaload, 1) := by decide +kernel
theorem dX5_handOver_44 : decode cX5_handOver 44 = .ok (.dup, 1) := by decide +kernel
theorem dX5_handOver_45 : decode cX5_handOver 45 = .ok (.getfield 76, 3) := by decide +kernel
theorem dX5_handOver_48 : decode cX5_handOver 48 = .ok (.iload 4, 2) := by decide +kernel
theorem dX5_handOver_50 : decode cX5_handOver 50 = .ok (.iadd, 1) := by decide +kernel
theorem dX5_handOver_51 : decode cX5_handOver 51 = .ok (.putfield 76, 3) := by decide +kernel
theorem dX5_handOver_54 : decode cX5_handOver 54 = .ok (.goto 77, 3) := by decide +kernel
theorem dX5_handOver_57 : decode cX5_handOver 57 = .ok (.aload_n 0, 1) := by decide +kernel
theorem dX5_handOver_58 : decode cX5_handOver 58 = .ok (.getfield 19, 3) := by decide +kernel
theorem dX5_handOver_61 : decode cX5_handOver 61 = .ok (.iload 5, 2) := by decide +kernel
theorem dX5_handOver_63 : decode cX5_handOver 63 = .ok (.aaload, 1) := by decide +kernel
theorem dX5_handOver_64 : decode cX5_handOver 64 = .ok (.iload_n 3, 1) := by decide +kernel
theorem dX5_handOver_65 : decode cX5_handOver 65 = .ok (.invokevirtual 72, 3) := by decide +kernel
theorem dX5_handOver_68 : decode cX5_handOver 68 = .ok (.ifCond .eq 32, 3) := by decide +kernel
theorem dX5_handOver_71 : decode cX5_handOver 71 = .ok (.aload_n 0, 1) := by decide +kernel
theorem dX5_handOver_72 : decode cX5_handOver 72 = .ok (.getfield 19, 3) := by decide +kernel
theorem dX5_handOver_75 : decode cX5_handOver 75 = .ok (.iload 5, 2) := by decide +kernel
theorem dX5_handOver_77 : decode cX5_handOver 77 = .ok (.aaload, 1) := by decide +kernel
theorem dX5_handOver_78 : decode cX5_handOver 78 = .ok (.getfield 76, 3) := by decide +kernel
theorem dX5_handOver_81 : decode cX5_handOver 81 = .ok (.iload 4, 2) := by decide +kernel
theorem dX5_handOver_83 : decode cX5_handOver 83 = .ok (.if_icmp .ge 17, 3) := by decide +kernel
theorem dX5_handOver_86 : decode cX5_handOver 86 = .ok (.aload_n 0, 1) := by decide +kernel
theorem dX5_handOver_87 : decode cX5_handOver 87 = .ok (.getfield 19, 3) := by decide +kernel
theorem dX5_handOver_90 : decode cX5_handOver 90 = .ok (.iload 5, 2) := by decide +kernel
theorem dX5_handOver_92 : decode cX5_handOver 92 = .ok (.aaload, 1) := by decide +kernel
theorem dX5_handOver_93 : decode cX5_handOver 93 = .ok (.iload_n 2, 1) := by decide +kernel
theorem dX5_handOver_94 : decode cX5_handOver 94 = .ok (.putfield 89, 3) := by decide +kernel
theorem dX5_handOver_97 : decode cX5_handOver 97 = .ok (.goto 34, 3) := by decide +kernel
theorem dX5_handOver_100 : decode cX5_handOver 100 = .ok (.aload_n 0, 1) := by decide +kernel
theorem dX5_handOver_101 : decode cX5_handOver 101 = .ok (.getfield 19, 3) := by decide +kernel
theorem dX5_handOver_104 : decode cX5_handOver 104 = .ok (.iload 5, 2) := by decide +kernel
theorem dX5_handOver_106 : decode cX5_handOver 106 = .ok (.aaload, 1) := by decide +kernel
theorem dX5_handOver_107 : decode cX5_handOver 107 = .ok (.iload_n 3, 1) := by decide +kernel
theorem dX5_handOver_108 : decode cX5_handOver 108 = .ok (.invokevirtual 72, 3) := by decide +kernel
theorem dX5_handOver_111 : decode cX5_handOver 111 = .ok (.ifCond .eq 20, 3) := by decide +kernel
theorem dX5_handOver_114 : decode cX5_handOver 114 = .ok (.aload_n 0, 1) := by decide +kernel
theorem dX5_handOver_115 : decode cX5_handOver 115 = .ok (.getfield 19, 3) := by decide +kernel
theorem dX5_handOver_118 : decode cX5_handOver 118 = .ok (.iload 5, 2) := by decide +kernel
theorem dX5_handOver_120 : decode cX5_handOver 120 = .ok (.aaload, 1) := by decide +kernel
theorem dX5_handOver_121 : decode cX5_handOver 121 = .ok (.dup, 1) := by decide +kernel
theorem dX5_handOver_122 : decode cX5_handOver 122 = .ok (.getfield 76, 3) := by decide +kernel
theorem dX5_handOver_125 : decode cX5_handOver 125 = .ok (.iload 4, 2) := by decide +kernel
theorem dX5_handOver_127 : decode cX5_handOver 127 = .ok (.isub, 1) := by decide +kernel
theorem dX5_handOver_128 : decode cX5_handOver 128 = .ok (.putfield 76, 3) := by decide +kernel
theorem dX5_handOver_131 : decode cX5_handOver 131 = .ok (.iinc 5 1, 3) := by decide +kernel
theorem dX5_handOver_134 : decode cX5_handOver 134 = .ok (.goto (-118), 3) := by decide +kernel
theorem dX5_handOver_137 : decode cX5_handOver 137 = .ok (.return_, 1) := by decide +kernel
theorem dX6_init_0 : decode cX6_init 0 = .ok (.aload_n 0, 1) := by decide +kernel
theorem dX6_init_1 : decode cX6_init 1 = .ok (.invokespecial 3, 3) := by decide +kernel
theorem dX6_init_4 : decode cX6_init 4 = .ok (.aload_n 0, 1) := by decide +kernel
theorem dX6_init_5 : decode cX6_init 5 = .ok (.new 9, 3) := by decide +kernel
theorem dX6_init_8 : decode cX6_init 8 = .ok (.dup, 1) := by decide +kernel
theorem dX6_init_9 : decode cX6_init 9 = .ok (.invokespecial 11, 3) := by decide +kernel
theorem dX6_init_12 : decode cX6_init 12 = .ok (.putfield 12, 3) := by decide +kernel
theorem dX6_init_15 : decode cX6_init 15 = .ok (.aload_n 0, 1) := by decide +kernel
theorem dX6_init_16 : decode cX6_init 16 = .ok (.new 9, 3) := by decide +kernel
theorem dX6_init_19 : decode cX6_init 19 = .ok (.dup, 1) := by decide +kernel
theorem dX6_init_20 : decode cX6_init 20 = .ok (.invokespecial 11, 3) := by decide +kernel
theorem dX6_init_23 : decode cX6_init 23 = .ok (.putfield 16, 3) := by decide +kernel
theorem dX6_init_26 : decode cX6_init 26 = .ok (.aload_n 0, 1) := by decide +kernel
theorem dX6_init_27 : decode cX6_init 27 = .ok (.bipush 16, 2) := by decide +kernel
theorem dX6_init_29 : decode cX6_init 29 = .ok (.newarray .int, 2) := by decide +kernel
theorem dX6_init_31 : decode cX6_init 31 = .ok (.putfield 19, 3) := by decide +kernel
theorem dX6_init_34 : decode cX6_init 34 = .ok (.aload_n 0, 1) := by decide +kernel
theorem dX6_init_35 : decode cX6_init 35 = .ok (.sipush 128, 3) := by decide +kernel
theorem dX6_init_38 : decode cX6_init 38 = .ok (.newarray .int, 2) := by decide +kernel
theorem dX6_init_40 : decode cX6_init 40 = .ok (.putfield 23, 3) := by decide +kernel
theorem dX6_init_43 : decode cX6_init 43 = .ok (.return_, 1) := by decide +kernel
theorem dX6_write_0 : decode cX6_write 0 = .ok (.aload_n 0, 1) := by decide +kernel
theorem dX6_write_1 : decode cX6_write 1 = .ok (.iload_n 1, 1) := by decide +kernel
theorem dX6_write_2 : decode cX6_write 2 = .ok (.invokevirtual 26, 3) := by decide +kernel
theorem dX6_write_5 : decode cX6_write 5 = .ok (.getfield 30, 3) := by decide +kernel
theorem dX6_write_8 : decode cX6_write 8 = .ok (.astore 5, 2) := by decide +kernel
theorem dX6_write_10 : decode cX6_write 10 = .ok (.iload_n 2, 1) := by decide +kernel
theorem dX6_write_11 : decode cX6_write 11 = .ok (.iload_n 3, 1) := by decide +kernel
theorem dX6_write_12 : decode cX6_write 12 = .ok (.invokestatic 36, 3) := by decide +kernel
theorem dX6_write_15 : decode cX6_write 15 = .ok (.istore 6, 2) := by decide +kernel
theorem dX6_write_17 : decode cX6_write 17 = .ok (.aload 5, 2) := by decide +kernel
theorem dX6_write_19 : decode cX6_write 19 = .ok (.iload 6, 2) := by decide +kernel
theorem dX6_write_21 : decode cX6_write 21 = .ok (.invokevirtual 40, 3) := by decide +kernel
theorem dX6_write_24 : decode cX6_write 24 = .ok (.istore 7, 2) := by decide +kernel
theorem dX6_write_26 : decode cX6_write 26 = .ok (.aload_n 0, 1) := by decide +kernel
theorem dX6_write_27 : decode cX6_write 27 = .ok (.getfield 12, 3) := by decide +kernel
theorem dX6_write_30 : decode cX6_write 30 = .ok (.getfield 46, 3) := by decide +kernel
theorem dX6_write_33 : decode cX6_write 33 = .ok (.iload 7, 2) := by decide +kernel
theorem dX6_write_35 : decode cX6_write 35 = .ok (.aload_n 0, 1) := by decide +kernel
theorem dX6_write_36 : decode cX6_write 36 = .ok (.getfield 12, 3) := by decide +kernel
theorem dX6_write_39 : decode cX6_write 39 = .ok (.getfield 50, 3) := by decide +kernel
theorem dX6_write_42 : decode cX6_write 42 = .ok (.invokevirtual 54, 3) := by decide +kernel
theorem dX6_write_45 : decode cX6_write 45 = .ok (.ifCond .eq 36, 3) := by decide +kernel
theorem dX6_write_48 : decode cX6_write 48 = .ok (.aload_n 0, 1) := by decide +kernel
theorem dX6_write_49 : decode cX6_write 49 = .ok (.getfield 12, 3) := by decide +kernel
theorem dX6_write_52 : decode cX6_write 52 = .ok (.getfield 46, 3) := by decide +kernel
theorem dX6_write_55 : decode cX6_write 55 = .ok (.iload 7, 2) := by decide +kernel
theorem dX6_write_57 : decode cX6_write 57 = .ok (.invokevirtual 60, 3) := by decide +kernel
theorem dX6_write_60 : decode cX6_write 60 = .ok (.iconst 1, 1) := by decide +kernel
theorem dX6_write_61 : decode cX6_write 61 = .ok (.if_icmp .ne 20, 3) := by decide +kernel
theorem dX6_write_64 : decode cX6_write 64 = .ok (.aload_n 0, 1) := by decide +kernel
theorem dX6_write_65 : decode cX6_write 65 = .ok (.getfield 12, 3) := by decide +kernel
theorem dX6_write_68 : decode cX6_write 68 = .ok (.getfield 46, 3) := by decide +kernel
theorem dX6_write_71 : decode cX6_write 71 = .ok (.iload 7, 2) := by decide +kernel
theorem dX6_write_73 : decode cX6_write 73 = .ok (.iload 4, 2) := by decide +kernel
theorem dX6_write_75 : decode cX6_write 75 = .ok (.invokevirtual 63, 3) := by decide +kernel
theorem dX6_write_78 : decode cX6_write 78 = .ok (.iload 7, 2) := by decide +kernel
theorem dX6_write_80 : decode cX6_write 80 = .ok (.ireturn, 1) := by decide +kernel
theorem dX6_write_81 : decode cX6_write 81 = .ok (.aload_n 0, 1) := by decide +kernel
theorem dX6_write_82 : decode cX6_write 82 = .ok (.getfield 12, 3) := by decide +kernel
theorem dX6_write_85 : decode cX6_write 85 = .ok (.getfield 46, 3) := by decide +kernel
theorem dX6_write_88 : decode cX6_write 88 = .ok (.invokevirtual 67, 3) := by decide +kernel
theorem dX6_write_91 : decode cX6_write 91 = .ok (.istore 8, 2) := by decide +kernel
theorem dX6_write_93 : decode cX6_write 93 = .ok (.iload 8, 2) := by decide +kernel
theorem dX6_write_95 : decode cX6_write 95 = .ok (.iconst (-1), 1) := by decide +kernel
theorem dX6_write_96 : decode cX6_write 96 = .ok (.if_icmp .ne 13, 3) := by decide +kernel
theorem dX6_write_99 : decode cX6_write 99 = .ok (.new 71, 3) := by decide +kernel
theorem dX6_write_102 : decode cX6_write 102 = .ok (.dup, 1) := by decide +kernel
theorem dX6_write_103 : decode cX6_write 103 = .ok (.ldc 73, 2) := by decide +kernel
theorem dX6_write_105 : decode cX6_write 105 = .ok (.invokespecial 75, 3) := by decide +kernel
theorem dX6_write_108 : decode cX6_write 108 = .ok (.athrow, 1) := by decide +kernel
theorem dX6_write_109 : decode cX6_write 109 = .ok (.aload_n 0, 1) := by decide +kernel
theorem dX6_write_110 : decode cX6_write 110 = .ok (.getfield 12, 3) := by decide +kernel
theorem dX6_write_113 : decode cX6_write 113 = .ok (.getfield 46, 3) := by decide +kernel
theorem dX6_write_116 : decode cX6_write 116 = .ok (.iload 8, 2) := by decide +kernel
theorem dX6_write_118 : decode cX6_write 118 = .ok (.iload 4, 2) := by decide +kernel
theorem dX6_write_120 : decode cX6_write 120 = .ok (.aload_n 0, 1) := by decide +kernel
theorem dX6_write_121 : decode cX6_write 121 = .ok (.getfield 12, 3) := by decide +kernel
theorem dX6_write_124 : decode cX6_write 124 = .ok (.getfield 50, 3) := by decide +kernel
theorem dX6_write_127 : decode cX6_write 127 = .ok (.invokevirtual 78, 3) := by decide +kernel
theorem dX6_write_130 : decode cX6_write 130 = .ok (.aload_n 0, 1) := by decide +kernel
theorem dX6_write_131 : decode cX6_write 131 = .ok (.getfield 12, 3) := by decide +kernel
theorem dX6_write_134 : decode cX6_write 134 = .ok (.aload 5, 2) := by decide +kernel
theorem dX6_write_136 : decode cX6_write 136 = .ok (.iload 6, 2) := by decide +kernel
theorem dX6_write_138 : decode cX6_write 138 = .ok (.iload 8, 2) := by decide +kernel
theorem dX6_write_140 : decode cX6_write 140 = .ok (.invokevirtual 82, 3) := by decide +kernel
theorem dX6_write_143 : decode cX6_write 143 = .ok (.aload_n 0, 1) := by decide +kernel
theorem dX6_write_144 : decode cX6_write 144 = .ok (.getfield 12, 3) := by decide +kernel
theorem dX6_write_147 : decode cX6_write 147 = .ok (.invokevirtual 86, 3) := by decide +kernel
theorem dX6_write_150 : decode cX6_write 150 = .ok (.pop, 1) := by decide +kernel
theorem dX6_write_151 : decode cX6_write 151 = .ok (.iload 8, 2) := by decide +kernel
theorem dX6_write_153 : decode cX6_write 153 = .ok (.ireturn, 1) := by decide +kernel
theorem dX6_read_0 : decode cX6_read 0 = .ok (.aload_n 0, 1) := by decide +kernel
theorem dX6_read_1 : decode cX6_read 1 = .ok (.getfield 12, 3) := by decide +kernel
theorem dX6_read_4 : decode cX6_read 4 = .ok (.getfield 46, 3) := by decide +kernel
theorem dX6_read_7 : decode cX6_read 7 = .ok (.aload_n 0, 1) := by decide +kernel
theorem dX6_read_8 : decode cX6_read 8 = .ok (.iload_n 1, 1) := by decide +kernel
theorem dX6_read_9 : decode cX6_read 9 = .ok (.invokevirtual 26, 3) := by decide +kernel
theorem dX6_read_12 : decode cX6_read 12 = .ok (.getfield 30, 3) := by decide +kernel
theorem dX6_read_15 : decode cX6_read 15 = .ok (.iload_n 2, 1) := by decide +kernel
theorem dX6_read_16 : decode cX6_read 16 = .ok (.iload_n 3, 1) := by decide +kernel
theorem dX6_read_17 : decode cX6_read 17 = .ok (.invokestatic 36, 3) := by decide +kernel
theorem dX6_read_20 : decode cX6_read 20 = .ok (.invokevirtual 40, 3) := by decide +kernel
theorem dX6_read_23 : decode cX6_read 23 = .ok (.invokevirtual 89, 3) := by decide +kernel
theorem dX6_read_26 : decode cX6_read 26 = .ok (.ireturn, 1) := by decide +kernel
theorem dX6_blockAt_0 : decode cX6_blockAt 0 = .ok (.aload_n 0, 1) := by decide +kernel
theorem dX6_blockAt_1 : decode cX6_blockAt 1 = .ok (.iload_n 1, 1) := by decide +kernel
theorem dX6_blockAt_2 : decode cX6_blockAt 2 = .ok (.invokevirtual 26, 3) := by decide +kernel
theorem dX6_blockAt_5 : decode cX6_blockAt 5 = .ok (.getfield 30, 3) := by decide +kernel
theorem dX6_blockAt_8 : decode cX6_blockAt 8 = .ok (.iload_n 2, 1) := by decide +kernel
theorem dX6_blockAt_9 : decode cX6_blockAt 9 = .ok (.iload_n 3, 1) := by decide +kernel
theorem dX6_blockAt_10 : decode cX6_blockAt 10 = .ok (.invokestatic 36, 3) := by decide +kernel
theorem dX6_blockAt_13 : decode cX6_blockAt 13 = .ok (.invokevirtual 40, 3) := by decide +kernel
theorem dX6_blockAt_16 : decode cX6_blockAt 16 = .ok (.ireturn, 1) := by decide +kernel
theorem dX6_length_0 : decode cX6_length 0 = .ok (.aload_n 0, 1) := by decide +kernel
theorem dX6_length_1 : decode cX6_length 1 = .ok (.iload_n 1, 1) := by decide +kernel
theorem dX6_length_2 : decode cX6_length 2 = .ok (.invokevirtual 26, 3) := by decide +kernel
theorem dX6_length_5 : decode cX6_length 5 = .ok (.getfield 30, 3) := by decide +kernel
theorem dX6_length_8 : decode cX6_length 8 = .ok (.astore_n 3, 1) := by decide +kernel
theorem dX6_length_9 : decode cX6_length 9 = .ok (.iload_n 2, 1) := by decide +kernel
theorem dX6_length_10 : decode cX6_length 10 = .ok (.iconst 0, 1) := by decide +kernel
theorem dX6_length_11 : decode cX6_length 11 = .ok (.invokestatic 36, 3) := by decide +kernel
theorem dX6_length_14 : decode cX6_length 14 = .ok (.istore 4, 2) := by decide +kernel
theorem dX6_length_16 : decode cX6_length 16 = .ok (.iconst 0, 1) := by decide +kernel
theorem dX6_length_17 : decode cX6_length 17 = .ok (.istore 5, 2) := by decide +kernel
theorem dX6_length_19 : decode cX6_length 19 = .ok (.iconst 0, 1) := by decide +kernel
theorem dX6_length_20 : decode cX6_length 20 = .ok (.istore 6, 2) := by decide +kernel
theorem dX6_length_22 : decode cX6_length 22 = .ok (.iload 6, 2) := by decide +kernel
theorem dX6_length_24 : decode cX6_length 24 = .ok (.bipush 16, 2) := by decide +kernel
theorem dX6_length_26 : decode cX6_length 26 = .ok (.if_icmp .ge 28, 3) := by decide +kernel
theorem dX6_length_29 : decode cX6_length 29 = .ok (.aload_n 3, 1) := by decide +kernel
theorem dX6_length_30 : decode cX6_length 30 = .ok (.iload 4, 2) := by decide +kernel
theorem dX6_length_32 : decode cX6_length 32 = .ok (.iload 6, 2) := by decide +kernel
theorem dX6_length_34 : decode cX6_length 34 = .ok (.iadd, 1) := by decide +kernel
theorem dX6_length_35 : decode cX6_length 35 = .ok (.invokevirtual 40, 3) := by decide +kernel
theorem dX6_length_38 : decode cX6_length 38 = .ok (.iconst (-1), 1) := by decide +kernel
theorem dX6_length_39 : decode cX6_length 39 = .ok (.if_icmp .eq 9, 3) := by decide +kernel
theorem dX6_length_42 : decode cX6_length 42 = .ok (.iload 6, 2) := by decide +kernel
theorem dX6_length_44 : decode cX6_length 44 = .ok (.iconst 1, 1) := by decide +kernel
theorem dX6_length_45 : decode cX6_length 45 = .ok (.iadd, 1) := by decide +kernel
theorem dX6_length_46 : decode cX6_length 46 = .ok (.istore 5, 2) := by decide +kernel
theorem dX6_length_48 : decode cX6_length 48 = .ok (.iinc 6 1, 3) := by decide +kernel
theorem dX6_length_51 : decode cX6_length 51 = .ok (.goto (-29), 3) := by decide +kernel
theorem dX6_length_54 : decode cX6_length 54 = .ok (.iload 5, 2) := by decide +kernel
theorem dX6_length_56 : decode cX6_length 56 = .ok (.ireturn, 1) := by decide +kernel
theorem dX6_punch_0 : decode cX6_punch 0 = .ok (.aload_n 0, 1) := by decide +kernel
theorem dX6_punch_1 : decode cX6_punch 1 = .ok (.iload_n 1, 1) := by decide +kernel
theorem dX6_punch_2 : decode cX6_punch 2 = .ok (.invokevirtual 26, 3) := by decide +kernel
theorem dX6_punch_5 : decode cX6_punch 5 = .ok (.getfield 30, 3) := by decide +kernel
theorem dX6_punch_8 : decode cX6_punch 8 = .ok (.astore 5, 2) := by decide +kernel
theorem dX6_punch_10 : decode cX6_punch 10 = .ok (.iload_n 2, 1) := by decide +kernel
theorem dX6_punch_11 : decode cX6_punch 11 = .ok (.iload_n 3, 1) := by decide +kernel
theorem dX6_punch_12 : decode cX6_punch 12 = .ok (.invokestatic 36, 3) := by decide +kernel
theorem dX6_punch_15 : decode cX6_punch 15 = .ok (.istore 6, 2) := by decide +kernel
theorem dX6_punch_17 : decode cX6_punch 17 = .ok (.iload_n 3, 1) := by decide +kernel
theorem dX6_punch_18 : decode cX6_punch 18 = .ok (.iload 4, 2) := by decide +kernel
theorem dX6_punch_20 : decode cX6_punch 20 = .ok (.invokestatic 92, 3) := by decide +kernel
theorem dX6_punch_23 : decode cX6_punch 23 = .ok (.ifCond .ne 13, 3) := by decide +kernel
theorem dX6_punch_26 : decode cX6_punch 26 = .ok (.new 95, 3) := by decide +kernel
theorem dX6_punch_29 : decode cX6_punch 29 = .ok (.dup, 1) := by decide +kernel
theorem dX6_punch_30 : decode cX6_punch 30 = .ok (.ldc 97, 2) := by decide +kernel
theorem dX6_punch_32 : decode cX6_punch 32 = .ok (.invokespecial 99, 3) := by decide +kernel
theorem dX6_punch_35 : decode cX6_punch 35 = .ok (.athrow, 1) := by decide +kernel
theorem dX6_punch_36 : decode cX6_punch 36 = .ok (.iconst 0, 1) := by decide +kernel
theorem dX6_punch_37 : decode cX6_punch 37 = .ok (.istore 7, 2) := by decide +kernel
theorem dX6_punch_39 : decode cX6_punch 39 = .ok (.iconst 0, 1) := by decide +kernel
theorem dX6_punch_40 : decode cX6_punch 40 = .ok (.istore 8, 2) := by decide +kernel
theorem dX6_punch_42 : decode cX6_punch 42 = .ok (.iload 8, 2) := by decide +kernel
theorem dX6_punch_44 : decode cX6_punch 44 = .ok (.iload 4, 2) := by decide +kernel
theorem dX6_punch_46 : decode cX6_punch 46 = .ok (.if_icmp .ge 41, 3) := by decide +kernel
theorem dX6_punch_49 : decode cX6_punch 49 = .ok (.aload 5, 2) := by decide +kernel
theorem dX6_punch_51 : decode cX6_punch 51 = .ok (.iload 6, 2) := by decide +kernel
theorem dX6_punch_53 : decode cX6_punch 53 = .ok (.iload 8, 2) := by decide +kernel
theorem dX6_punch_55 : decode cX6_punch 55 = .ok (.iadd, 1) := by decide +kernel
theorem dX6_punch_56 : decode cX6_punch 56 = .ok (.invokevirtual 40, 3) := by decide +kernel
theorem dX6_punch_59 : decode cX6_punch 59 = .ok (.iconst (-1), 1) := by decide +kernel
theorem dX6_punch_60 : decode cX6_punch 60 = .ok (.if_icmp .eq 21, 3) := by decide +kernel
theorem dX6_punch_63 : decode cX6_punch 63 = .ok (.aload_n 0, 1) := by decide +kernel
theorem dX6_punch_64 : decode cX6_punch 64 = .ok (.getfield 12, 3) := by decide +kernel
theorem dX6_punch_67 : decode cX6_punch 67 = .ok (.aload 5, 2) := by decide +kernel
theorem dX6_punch_69 : decode cX6_punch 69 = .ok (.iload 6, 2) := by decide +kernel
theorem dX6_punch_71 : decode cX6_punch 71 = .ok (.iload 8, 2) := by decide +kernel
theorem dX6_punch_73 : decode cX6_punch 73 = .ok (.iadd, 1) := by decide +kernel
theorem dX6_punch_74 : decode cX6_punch 74 = .ok (.iconst (-1), 1) := by decide +kernel
theorem dX6_punch_75 : decode cX6_punch 75 = .ok (.invokevirtual 82, 3) := by decide +kernel
theorem dX6_punch_78 : decode cX6_punch 78 = .ok (.iinc 7 1, 3) := by decide +kernel
theorem dX6_punch_81 : decode cX6_punch 81 = .ok (.iinc 8 1, 3) := by decide +kernel
theorem dX6_punch_84 : decode cX6_punch 84 = .ok (.goto (-42), 3) := by decide +kernel
theorem dX6_punch_87 : decode cX6_punch 87 = .ok (.aload_n 0, 1) := by decide +kernel
theorem dX6_punch_88 : decode cX6_punch 88 = .ok (.getfield 12, 3) := by decide +kernel
theorem dX6_punch_91 : decode cX6_punch 91 = .ok (.invokevirtual 86, 3) := by decide +kernel
theorem dX6_punch_94 : decode cX6_punch 94 = .ok (.pop, 1) := by decide +kernel
theorem dX6_punch_95 : decode cX6_punch 95 = .ok (.iload 7, 2) := by decide +kernel
theorem dX6_punch_97 : decode cX6_punch 97 = .ok (.ireturn, 1) := by decide +kernel
theorem dX6_reflink_0 : decode cX6_reflink 0 = .ok (.aload_n 0, 1) := by decide +kernel
theorem dX6_reflink_1 : decode cX6_reflink 1 = .ok (.iload_n 1, 1) := by decide +kernel
theorem dX6_reflink_2 : decode cX6_reflink 2 = .ok (.invokevirtual 26, 3) := by decide +kernel
theorem dX6_reflink_5 : decode cX6_reflink 5 = .ok (.getfield 30, 3) := by decide +kernel
theorem dX6_reflink_8 : decode cX6_reflink 8 = .ok (.astore 7, 2) := by decide +kernel
theorem dX6_reflink_10 : decode cX6_reflink 10 = .ok (.iload_n 2, 1) := by decide +kernel
theorem dX6_reflink_11 : decode cX6_reflink 11 = .ok (.iload_n 3, 1) := by decide +kernel
theorem dX6_reflink_12 : decode cX6_reflink 12 = .ok (.invokestatic 36, 3) := by decide +kernel
theorem dX6_reflink_15 : decode cX6_reflink 15 = .ok (.istore 8, 2) := by decide +kernel
theorem dX6_reflink_17 : decode cX6_reflink 17 = .ok (.iload 4, 2) := by decide +kernel
theorem dX6_reflink_19 : decode cX6_reflink 19 = .ok (.iload 5, 2) := by decide +kernel
theorem dX6_reflink_21 : decode cX6_reflink 21 = .ok (.invokestatic 36, 3) := by decide +kernel
theorem dX6_reflink_24 : decode cX6_reflink 24 = .ok (.istore 9, 2) := by decide +kernel
theorem dX6_reflink_26 : decode cX6_reflink 26 = .ok (.iload_n 3, 1) := by decide +kernel
theorem dX6_reflink_27 : decode cX6_reflink 27 = .ok (.iload 6, 2) := by decide +kernel
theorem dX6_reflink_29 : decode cX6_reflink 29 = .ok (.invokestatic 92, 3) := by decide +kernel
theorem dX6_reflink_32 : decode cX6_reflink 32 = .ok (.ifCond .eq 13, 3) := by decide +kernel
theorem dX6_reflink_35 : decode cX6_reflink 35 = .ok (.iload 5, 2) := by decide +kernel
theorem dX6_reflink_37 : decode cX6_reflink 37 = .ok (.iload 6, 2) := by decide +kernel
theorem dX6_reflink_39 : decode cX6_reflink 39 = .ok (.invokestatic 92, 3) := by decide +kernel
theorem dX6_reflink_42 : decode cX6_reflink 42 = .ok (.ifCond .ne 13, 3) := by decide +kernel
theorem dX6_reflink_45 : decode cX6_reflink 45 = .ok (.new 95, 3) := by decide +kernel
theorem dX6_reflink_48 : decode cX6_reflink 48 = .ok (.dup, 1) := by decide +kernel
theorem dX6_reflink_49 : decode cX6_reflink 49 = .ok (.ldc 100, 2) := by decide +kernel
theorem dX6_reflink_51 : decode cX6_reflink 51 = .ok (.invokespecial 99, 3) := by decide +kernel
theorem dX6_reflink_54 : decode cX6_reflink 54 = .ok (.athrow, 1) := by decide +kernel
theorem dX6_reflink_55 : decode cX6_reflink 55 = .ok (.aload_n 0, 1) := by decide +kernel
theorem dX6_reflink_56 : decode cX6_reflink 56 = .ok (.aload 7, 2) := by decide +kernel
theorem dX6_reflink_58 : decode cX6_reflink 58 = .ok (.iload 8, 2) := by decide +kernel
theorem dX6_reflink_60 : decode cX6_reflink 60 = .ok (.iload 6, 2) := by decide +kernel
theorem dX6_reflink_62 : decode cX6_reflink 62 = .ok (.invokevirtual 102, 3) := by decide +kernel
theorem dX6_reflink_65 : decode cX6_reflink 65 = .ok (.iconst 0, 1) := by decide +kernel
theorem dX6_reflink_66 : decode cX6_reflink 66 = .ok (.istore 10, 2) := by decide +kernel
theorem dX6_reflink_68 : decode cX6_reflink 68 = .ok (.iconst 0, 1) := by decide +kernel
theorem dX6_reflink_69 : decode cX6_reflink 69 = .ok (.istore 11, 2) := by decide +kernel
theorem dX6_reflink_71 : decode cX6_reflink 71 = .ok (.iload 11, 2) := by decide +kernel
theorem dX6_reflink_73 : decode cX6_reflink 73 = .ok (.iload 6, 2) := by decide +kernel
theorem dX6_reflink_75 : decode cX6_reflink 75 = .ok (.if_icmp .ge 63, 3) := by decide +kernel
theorem dX6_reflink_78 : decode cX6_reflink 78 = .ok (.iload 11, 2) := by decide +kernel
theorem dX6_reflink_80 : decode cX6_reflink 80 = .ok (.aload_n 0, 1) := by decide +kernel
theorem dX6_reflink_81 : decode cX6_reflink 81 = .ok (.getfield 19, 3) := by decide +kernel
theorem dX6_reflink_84 : decode cX6_reflink 84 = .ok (.arraylength, 1) := by decide +kernel
theorem dX6_reflink_85 : decode cX6_reflink 85 = .ok (.if_icmp .ge 53, 3) := by decide +kernel
theorem dX6_reflink_88 : decode cX6_reflink 88 = .ok (.aload 7, 2) := by decide +kernel
theorem dX6_reflink_90 : decode cX6_reflink 90 = .ok (.iload 9, 2) := by decide +kernel
theorem dX6_reflink_92 : decode cX6_reflink 92 = .ok (.iload 11, 2) := by decide +kernel
theorem dX6_reflink_94 : decode cX6_reflink 94 = .ok (.iadd, 1) := by decide +kernel
theorem dX6_reflink_95 : decode cX6_reflink 95 = .ok (.invokevirtual 40, 3) := by decide +kernel
theorem dX6_reflink_98 : decode cX6_reflink 98 = .ok (.aload_n 0, 1) := by decide +kernel
theorem dX6_reflink_99 : decode cX6_reflink 99 = .ok (.getfield 19, 3) := by decide +kernel
theorem dX6_reflink_102 : decode cX6_reflink 102 = .ok (.iload 11, 2) := by decide +kernel
theorem dX6_reflink_104 : decode cX6_reflink 104 = .ok (.iaload, 1) := by decide +kernel
theorem dX6_reflink_105 : decode cX6_reflink 105 = .ok (.if_icmp .eq 27, 3) := by decide +kernel
theorem dX6_reflink_108 : decode cX6_reflink 108 = .ok (.aload_n 0, 1) := by decide +kernel
theorem dX6_reflink_109 : decode cX6_reflink 109 = .ok (.getfield 12, 3) := by decide +kernel
theorem dX6_reflink_112 : decode cX6_reflink 112 = .ok (.aload 7, 2) := by decide +kernel
theorem dX6_reflink_114 : decode cX6_reflink 114 = .ok (.iload 9, 2) := by decide +kernel
theorem dX6_reflink_116 : decode cX6_reflink 116 = .ok (.iload 11, 2) := by decide +kernel
theorem dX6_reflink_118 : decode cX6_reflink 118 = .ok (.iadd, 1) := by decide +kernel
theorem dX6_reflink_119 : decode cX6_reflink 119 = .ok (.aload_n 0, 1) := by decide +kernel
theorem dX6_reflink_120 : decode cX6_reflink 120 = .ok (.getfield 19, 3) := by decide +kernel
theorem dX6_reflink_123 : decode cX6_reflink 123 = .ok (.iload 11, 2) := by decide +kernel
theorem dX6_reflink_125 : decode cX6_reflink 125 = .ok (.iaload, 1) := by decide +kernel
theorem dX6_reflink_126 : decode cX6_reflink 126 = .ok (.invokevirtual 82, 3) := by decide +kernel
theorem dX6_reflink_129 : decode cX6_reflink 129 = .ok (.iinc 10 1, 3) := by decide +kernel
theorem dX6_reflink_132 : decode cX6_reflink 132 = .ok (.iinc 11 1, 3) := by decide +kernel
theorem dX6_reflink_135 : decode cX6_reflink 135 = .ok (.goto (-64), 3) := by decide +kernel
theorem dX6_reflink_138 : decode cX6_reflink 138 = .ok (.aload_n 0, 1) := by decide +kernel
theorem dX6_reflink_139 : decode cX6_reflink 139 = .ok (.getfield 12, 3) := by decide +kernel
theorem dX6_reflink_142 : decode cX6_reflink 142 = .ok (.invokevirtual 86, 3) := by decide +kernel
theorem dX6_reflink_145 : decode cX6_reflink 145 = .ok (.pop, 1) := by decide +kernel
theorem dX6_reflink_146 : decode cX6_reflink 146 = .ok (.iload 10, 2) := by decide +kernel
theorem dX6_reflink_148 : decode cX6_reflink 148 = .ok (.ireturn, 1) := by decide +kernel
theorem dX6_commit_0 : decode cX6_commit 0 = .ok (.aload_n 0, 1) := by decide +kernel
theorem dX6_commit_1 : decode cX6_commit 1 = .ok (.invokevirtual 105, 3) := by decide +kernel
theorem dX6_commit_4 : decode cX6_commit 4 = .ok (.ireturn, 1) := by decide +kernel
theorem dX6_crash_0 : decode cX6_crash 0 = .ok (.aload_n 0, 1) := by decide +kernel
theorem dX6_crash_1 : decode cX6_crash 1 = .ok (.getfield 12, 3) := by decide +kernel
theorem dX6_crash_4 : decode cX6_crash 4 = .ok (.aload_n 0, 1) := by decide +kernel
theorem dX6_crash_5 : decode cX6_crash 5 = .ok (.getfield 16, 3) := by decide +kernel
theorem dX6_crash_8 : decode cX6_crash 8 = .ok (.invokevirtual 108, 3) := by decide +kernel
theorem dX6_crash_11 : decode cX6_crash 11 = .ok (.aload_n 0, 1) := by decide +kernel
theorem dX6_crash_12 : decode cX6_crash 12 = .ok (.getfield 12, 3) := by decide +kernel
theorem dX6_crash_15 : decode cX6_crash 15 = .ok (.getfield 50, 3) := by decide +kernel
theorem dX6_crash_18 : decode cX6_crash 18 = .ok (.ireturn, 1) := by decide +kernel
theorem dX6_transaction_0 : decode cX6_transaction 0 = .ok (.aload_n 0, 1) := by decide +kernel
theorem dX6_transaction_1 : decode cX6_transaction 1 = .ok (.getfield 12, 3) := by decide +kernel
theorem dX6_transaction_4 : decode cX6_transaction 4 = .ok (.getfield 50, 3) := by decide +kernel
theorem dX6_transaction_7 : decode cX6_transaction 7 = .ok (.ireturn, 1) := by decide +kernel
theorem dX6_snapshot_0 : decode cX6_snapshot 0 = .ok (.aload_n 0, 1) := by decide +kernel
theorem dX6_snapshot_1 : decode cX6_snapshot 1 = .ok (.iload_n 1, 1) := by decide +kernel
theorem dX6_snapshot_2 : decode cX6_snapshot 2 = .ok (.invokevirtual 26, 3) := by decide +kernel
theorem dX6_snapshot_5 : decode cX6_snapshot 5 = .ok (.astore_n 2, 1) := by decide +kernel
theorem dX6_snapshot_6 : decode cX6_snapshot 6 = .ok (.aload_n 0, 1) := by decide +kernel
theorem dX6_snapshot_7 : decode cX6_snapshot 7 = .ok (.getfield 12, 3) := by decide +kernel
theorem dX6_snapshot_10 : decode cX6_snapshot 10 = .ok (.invokevirtual 112, 3) := by decide +kernel
theorem dX6_snapshot_13 : decode cX6_snapshot 13 = .ok (.astore_n 3, 1) := by decide +kernel
theorem dX6_snapshot_14 : decode cX6_snapshot 14 = .ok (.aload_n 3, 1) := by decide +kernel
theorem dX6_snapshot_15 : decode cX6_snapshot 15 = .ok (.ifnonnull 13, 3) := by decide +kernel
theorem dX6_snapshot_18 : decode cX6_snapshot 18 = .ok (.new 71, 3) := by decide +kernel
theorem dX6_snapshot_21 : decode cX6_snapshot 21 = .ok (.dup, 1) := by decide +kernel
theorem dX6_snapshot_22 : decode cX6_snapshot 22 = .ok (.ldc 116, 2) := by decide +kernel
theorem dX6_snapshot_24 : decode cX6_snapshot 24 = .ok (.invokespecial 75, 3) := by decide +kernel
theorem dX6_snapshot_27 : decode cX6_snapshot 27 = .ok (.athrow, 1) := by decide +kernel
theorem dX6_snapshot_28 : decode cX6_snapshot 28 = .ok (.aload_n 0, 1) := by decide +kernel
theorem dX6_snapshot_29 : decode cX6_snapshot 29 = .ok (.getfield 12, 3) := by decide +kernel
theorem dX6_snapshot_32 : decode cX6_snapshot 32 = .ok (.aload_n 3, 1) := by decide +kernel
theorem dX6_snapshot_33 : decode cX6_snapshot 33 = .ok (.aload_n 2, 1) := by decide +kernel
theorem dX6_snapshot_34 : decode cX6_snapshot 34 = .ok (.iload_n 1, 1) := by decide +kernel
theorem dX6_snapshot_35 : decode cX6_snapshot 35 = .ok (.invokevirtual 118, 3) := by decide +kernel
theorem dX6_snapshot_38 : decode cX6_snapshot 38 = .ok (.aload_n 0, 1) := by decide +kernel
theorem dX6_snapshot_39 : decode cX6_snapshot 39 = .ok (.invokevirtual 105, 3) := by decide +kernel
theorem dX6_snapshot_42 : decode cX6_snapshot 42 = .ok (.pop, 1) := by decide +kernel
theorem dX6_snapshot_43 : decode cX6_snapshot 43 = .ok (.aload_n 3, 1) := by decide +kernel
theorem dX6_snapshot_44 : decode cX6_snapshot 44 = .ok (.getfield 121, 3) := by decide +kernel
theorem dX6_snapshot_47 : decode cX6_snapshot 47 = .ok (.ireturn, 1) := by decide +kernel
theorem dX6_readSnapshot_0 : decode cX6_readSnapshot 0 = .ok (.aload_n 0, 1) := by decide +kernel
theorem dX6_readSnapshot_1 : decode cX6_readSnapshot 1 = .ok (.getfield 12, 3) := by decide +kernel
theorem dX6_readSnapshot_4 : decode cX6_readSnapshot 4 = .ok (.getfield 46, 3) := by decide +kernel
theorem dX6_readSnapshot_7 : decode cX6_readSnapshot 7 = .ok (.aload_n 0, 1) := by decide +kernel
end
section
theorem dX6_readSnapshot_8 : decode cX6_readSnapshot 8 = .ok (.iload_n 1, 1) := by decide +kernel
theorem dX6_readSnapshot_9 : decode cX6_readSnapshot 9 = .ok (.invokevirtual 124, 3) := by decide +kernel
theorem dX6_readSnapshot_12 : decode cX6_readSnapshot 12 = .ok (.getfield 128, 3) := by decide +kernel
theorem dX6_readSnapshot_15 : decode cX6_readSnapshot 15 = .ok (.iload_n 2, 1) := by decide +kernel
theorem dX6_readSnapshot_16 : decode cX6_readSnapshot 16 = .ok (.iload_n 3, 1) := by decide +kernel
theorem dX6_readSnapshot_17 : decode cX6_readSnapshot 17 = .ok (.invokestatic 36, 3) := by decide +kernel
theorem dX6_readSnapshot_20 : decode cX6_readSnapshot 20 = .ok (.invokevirtual 40, 3) := by decide +kernel
theorem dX6_readSnapshot_23 : decode cX6_readSnapshot 23 = .ok (.invokevirtual 89, 3) := by decide +kernel
theorem dX6_readSnapshot_26 : decode cX6_readSnapshot 26 = .ok (.ireturn, 1) := by decide +kernel
theorem dX6_blockInSnapshot_0 : decode cX6_blockInSnapshot 0 = .ok (.aload_n 0, 1) := by decide +kernel
theorem dX6_blockInSnapshot_1 : decode cX6_blockInSnapshot 1 = .ok (.iload_n 1, 1) := by decide +kernel
theorem dX6_blockInSnapshot_2 : decode cX6_blockInSnapshot 2 = .ok (.invokevirtual 124, 3) := by decide +kernel
theorem dX6_blockInSnapshot_5 : decode cX6_blockInSnapshot 5 = .ok (.getfield 128, 3) := by decide +kernel
theorem dX6_blockInSnapshot_8 : decode cX6_blockInSnapshot 8 = .ok (.iload_n 2, 1) := by decide +kernel
theorem dX6_blockInSnapshot_9 : decode cX6_blockInSnapshot 9 = .ok (.iload_n 3, 1) := by decide +kernel
theorem dX6_blockInSnapshot_10 : decode cX6_blockInSnapshot 10 = .ok (.invokestatic 36, 3) := by decide +kernel
theorem dX6_blockInSnapshot_13 : decode cX6_blockInSnapshot 13 = .ok (.invokevirtual 40, 3) := by decide +kernel
theorem dX6_blockInSnapshot_16 : decode cX6_blockInSnapshot 16 = .ok (.ireturn, 1) := by decide +kernel
theorem dX6_transactionOf_0 : decode cX6_transactionOf 0 = .ok (.aload_n 0, 1) := by decide +kernel
theorem dX6_transactionOf_1 : decode cX6_transactionOf 1 = .ok (.iload_n 1, 1) := by decide +kernel
theorem dX6_transactionOf_2 : decode cX6_transactionOf 2 = .ok (.invokevirtual 124, 3) := by decide +kernel
theorem dX6_transactionOf_5 : decode cX6_transactionOf 5 = .ok (.getfield 129, 3) := by decide +kernel
theorem dX6_transactionOf_8 : decode cX6_transactionOf 8 = .ok (.ireturn, 1) := by decide +kernel
theorem dX6_datasetOf_0 : decode cX6_datasetOf 0 = .ok (.aload_n 0, 1) := by decide +kernel
theorem dX6_datasetOf_1 : decode cX6_datasetOf 1 = .ok (.iload_n 1, 1) := by decide +kernel
theorem dX6_datasetOf_2 : decode cX6_datasetOf 2 = .ok (.invokevirtual 124, 3) := by decide +kernel
theorem dX6_datasetOf_5 : decode cX6_datasetOf 5 = .ok (.getfield 132, 3) := by decide +kernel
theorem dX6_datasetOf_8 : decode cX6_datasetOf 8 = .ok (.ireturn, 1) := by decide +kernel
theorem dX6_snapshots_0 : decode cX6_snapshots 0 = .ok (.aload_n 0, 1) := by decide +kernel
theorem dX6_snapshots_1 : decode cX6_snapshots 1 = .ok (.iload_n 1, 1) := by decide +kernel
theorem dX6_snapshots_2 : decode cX6_snapshots 2 = .ok (.invokevirtual 26, 3) := by decide +kernel
theorem dX6_snapshots_5 : decode cX6_snapshots 5 = .ok (.pop, 1) := by decide +kernel
theorem dX6_snapshots_6 : decode cX6_snapshots 6 = .ok (.aload_n 0, 1) := by decide +kernel
theorem dX6_snapshots_7 : decode cX6_snapshots 7 = .ok (.getfield 12, 3) := by decide +kernel
theorem dX6_snapshots_10 : decode cX6_snapshots 10 = .ok (.iload_n 1, 1) := by decide +kernel
theorem dX6_snapshots_11 : decode cX6_snapshots 11 = .ok (.invokevirtual 135, 3) := by decide +kernel
theorem dX6_snapshots_14 : decode cX6_snapshots 14 = .ok (.ireturn, 1) := by decide +kernel
theorem dX6_snapshotAt_0 : decode cX6_snapshotAt 0 = .ok (.aload_n 0, 1) := by decide +kernel
theorem dX6_snapshotAt_1 : decode cX6_snapshotAt 1 = .ok (.iload_n 1, 1) := by decide +kernel
theorem dX6_snapshotAt_2 : decode cX6_snapshotAt 2 = .ok (.invokevirtual 26, 3) := by decide +kernel
theorem dX6_snapshotAt_5 : decode cX6_snapshotAt 5 = .ok (.pop, 1) := by decide +kernel
theorem dX6_snapshotAt_6 : decode cX6_snapshotAt 6 = .ok (.aload_n 0, 1) := by decide +kernel
theorem dX6_snapshotAt_7 : decode cX6_snapshotAt 7 = .ok (.getfield 12, 3) := by decide +kernel
theorem dX6_snapshotAt_10 : decode cX6_snapshotAt 10 = .ok (.iload_n 1, 1) := by decide +kernel
theorem dX6_snapshotAt_11 : decode cX6_snapshotAt 11 = .ok (.iload_n 2, 1) := by decide +kernel
theorem dX6_snapshotAt_12 : decode cX6_snapshotAt 12 = .ok (.invokevirtual 138, 3) := by decide +kernel
theorem dX6_snapshotAt_15 : decode cX6_snapshotAt 15 = .ok (.astore_n 3, 1) := by decide +kernel
theorem dX6_snapshotAt_16 : decode cX6_snapshotAt 16 = .ok (.aload_n 3, 1) := by decide +kernel
theorem dX6_snapshotAt_17 : decode cX6_snapshotAt 17 = .ok (.ifnonnull 13, 3) := by decide +kernel
theorem dX6_snapshotAt_20 : decode cX6_snapshotAt 20 = .ok (.new 142, 3) := by decide +kernel
theorem dX6_snapshotAt_23 : decode cX6_snapshotAt 23 = .ok (.dup, 1) := by decide +kernel
theorem dX6_snapshotAt_24 : decode cX6_snapshotAt 24 = .ok (.ldc 144, 2) := by decide +kernel
theorem dX6_snapshotAt_26 : decode cX6_snapshotAt 26 = .ok (.invokespecial 146, 3) := by decide +kernel
theorem dX6_snapshotAt_29 : decode cX6_snapshotAt 29 = .ok (.athrow, 1) := by decide +kernel
theorem dX6_snapshotAt_30 : decode cX6_snapshotAt 30 = .ok (.aload_n 3, 1) := by decide +kernel
theorem dX6_snapshotAt_31 : decode cX6_snapshotAt 31 = .ok (.getfield 121, 3) := by decide +kernel
theorem dX6_snapshotAt_34 : decode cX6_snapshotAt 34 = .ok (.ireturn, 1) := by decide +kernel
theorem dX6_destroySnapshot_0 : decode cX6_destroySnapshot 0 = .ok (.aload_n 0, 1) := by decide +kernel
theorem dX6_destroySnapshot_1 : decode cX6_destroySnapshot 1 = .ok (.iload_n 1, 1) := by decide +kernel
theorem dX6_destroySnapshot_2 : decode cX6_destroySnapshot 2 = .ok (.invokevirtual 124, 3) := by decide +kernel
theorem dX6_destroySnapshot_5 : decode cX6_destroySnapshot 5 = .ok (.astore_n 2, 1) := by decide +kernel
theorem dX6_destroySnapshot_6 : decode cX6_destroySnapshot 6 = .ok (.aload_n 0, 1) := by decide +kernel
theorem dX6_destroySnapshot_7 : decode cX6_destroySnapshot 7 = .ok (.getfield 12, 3) := by decide +kernel
theorem dX6_destroySnapshot_10 : decode cX6_destroySnapshot 10 = .ok (.iload_n 1, 1) := by decide +kernel
theorem dX6_destroySnapshot_11 : decode cX6_destroySnapshot 11 = .ok (.invokevirtual 147, 3) := by decide +kernel
theorem dX6_destroySnapshot_14 : decode cX6_destroySnapshot 14 = .ok (.ifCond .eq 13, 3) := by decide +kernel
theorem dX6_destroySnapshot_17 : decode cX6_destroySnapshot 17 = .ok (.new 71, 3) := by decide +kernel
theorem dX6_destroySnapshot_20 : decode cX6_destroySnapshot 20 = .ok (.dup, 1) := by decide +kernel
theorem dX6_destroySnapshot_21 : decode cX6_destroySnapshot 21 = .ok (.ldc 151, 2) := by decide +kernel
theorem dX6_destroySnapshot_23 : decode cX6_destroySnapshot 23 = .ok (.invokespecial 75, 3) := by decide +kernel
theorem dX6_destroySnapshot_26 : decode cX6_destroySnapshot 26 = .ok (.athrow, 1) := by decide +kernel
theorem dX6_destroySnapshot_27 : decode cX6_destroySnapshot 27 = .ok (.aload_n 0, 1) := by decide +kernel
theorem dX6_destroySnapshot_28 : decode cX6_destroySnapshot 28 = .ok (.getfield 12, 3) := by decide +kernel
theorem dX6_destroySnapshot_31 : decode cX6_destroySnapshot 31 = .ok (.aload_n 2, 1) := by decide +kernel
theorem dX6_destroySnapshot_32 : decode cX6_destroySnapshot 32 = .ok (.invokevirtual 153, 3) := by decide +kernel
theorem dX6_destroySnapshot_35 : decode cX6_destroySnapshot 35 = .ok (.aload_n 0, 1) := by decide +kernel
theorem dX6_destroySnapshot_36 : decode cX6_destroySnapshot 36 = .ok (.getfield 12, 3) := by decide +kernel
theorem dX6_destroySnapshot_39 : decode cX6_destroySnapshot 39 = .ok (.invokevirtual 86, 3) := by decide +kernel
theorem dX6_destroySnapshot_42 : decode cX6_destroySnapshot 42 = .ok (.ireturn, 1) := by decide +kernel
theorem dX6_rollback_0 : decode cX6_rollback 0 = .ok (.aload_n 0, 1) := by decide +kernel
theorem dX6_rollback_1 : decode cX6_rollback 1 = .ok (.iload_n 1, 1) := by decide +kernel
theorem dX6_rollback_2 : decode cX6_rollback 2 = .ok (.invokevirtual 26, 3) := by decide +kernel
theorem dX6_rollback_5 : decode cX6_rollback 5 = .ok (.astore_n 3, 1) := by decide +kernel
theorem dX6_rollback_6 : decode cX6_rollback 6 = .ok (.aload_n 0, 1) := by decide +kernel
theorem dX6_rollback_7 : decode cX6_rollback 7 = .ok (.iload_n 2, 1) := by decide +kernel
theorem dX6_rollback_8 : decode cX6_rollback 8 = .ok (.invokevirtual 124, 3) := by decide +kernel
theorem dX6_rollback_11 : decode cX6_rollback 11 = .ok (.astore 4, 2) := by decide +kernel
theorem dX6_rollback_13 : decode cX6_rollback 13 = .ok (.aload 4, 2) := by decide +kernel
theorem dX6_rollback_15 : decode cX6_rollback 15 = .ok (.getfield 132, 3) := by decide +kernel
theorem dX6_rollback_18 : decode cX6_rollback 18 = .ok (.iload_n 1, 1) := by decide +kernel
theorem dX6_rollback_19 : decode cX6_rollback 19 = .ok (.if_icmp .eq 13, 3) := by decide +kernel
theorem dX6_rollback_22 : decode cX6_rollback 22 = .ok (.new 95, 3) := by decide +kernel
theorem dX6_rollback_25 : decode cX6_rollback 25 = .ok (.dup, 1) := by decide +kernel
theorem dX6_rollback_26 : decode cX6_rollback 26 = .ok (.ldc 157, 2) := by decide +kernel
theorem dX6_rollback_28 : decode cX6_rollback 28 = .ok (.invokespecial 99, 3) := by decide +kernel
theorem dX6_rollback_31 : decode cX6_rollback 31 = .ok (.athrow, 1) := by decide +kernel
theorem dX6_rollback_32 : decode cX6_rollback 32 = .ok (.aload_n 0, 1) := by decide +kernel
theorem dX6_rollback_33 : decode cX6_rollback 33 = .ok (.getfield 12, 3) := by decide +kernel
theorem dX6_rollback_36 : decode cX6_rollback 36 = .ok (.aload 4, 2) := by decide +kernel
theorem dX6_rollback_38 : decode cX6_rollback 38 = .ok (.invokevirtual 159, 3) := by decide +kernel
theorem dX6_rollback_41 : decode cX6_rollback 41 = .ok (.ifCond .eq 13, 3) := by decide +kernel
theorem dX6_rollback_44 : decode cX6_rollback 44 = .ok (.new 71, 3) := by decide +kernel
theorem dX6_rollback_47 : decode cX6_rollback 47 = .ok (.dup, 1) := by decide +kernel
theorem dX6_rollback_48 : decode cX6_rollback 48 = .ok (.ldc 163, 2) := by decide +kernel
theorem dX6_rollback_50 : decode cX6_rollback 50 = .ok (.invokespecial 75, 3) := by decide +kernel
theorem dX6_rollback_53 : decode cX6_rollback 53 = .ok (.athrow, 1) := by decide +kernel
theorem dX6_rollback_54 : decode cX6_rollback 54 = .ok (.aload_n 0, 1) := by decide +kernel
theorem dX6_rollback_55 : decode cX6_rollback 55 = .ok (.getfield 12, 3) := by decide +kernel
theorem dX6_rollback_58 : decode cX6_rollback 58 = .ok (.aload_n 3, 1) := by decide +kernel
theorem dX6_rollback_59 : decode cX6_rollback 59 = .ok (.getfield 30, 3) := by decide +kernel
theorem dX6_rollback_62 : decode cX6_rollback 62 = .ok (.aload 4, 2) := by decide +kernel
theorem dX6_rollback_64 : decode cX6_rollback 64 = .ok (.getfield 128, 3) := by decide +kernel
theorem dX6_rollback_67 : decode cX6_rollback 67 = .ok (.invokevirtual 165, 3) := by decide +kernel
theorem dX6_rollback_70 : decode cX6_rollback 70 = .ok (.aload_n 0, 1) := by decide +kernel
theorem dX6_rollback_71 : decode cX6_rollback 71 = .ok (.getfield 12, 3) := by decide +kernel
theorem dX6_rollback_74 : decode cX6_rollback 74 = .ok (.aload 4, 2) := by decide +kernel
theorem dX6_rollback_76 : decode cX6_rollback 76 = .ok (.invokevirtual 169, 3) := by decide +kernel
theorem dX6_rollback_79 : decode cX6_rollback 79 = .ok (.istore 5, 2) := by decide +kernel
theorem dX6_rollback_81 : decode cX6_rollback 81 = .ok (.aload_n 0, 1) := by decide +kernel
theorem dX6_rollback_82 : decode cX6_rollback 82 = .ok (.getfield 12, 3) := by decide +kernel
theorem dX6_rollback_85 : decode cX6_rollback 85 = .ok (.invokevirtual 86, 3) := by decide +kernel
theorem dX6_rollback_88 : decode cX6_rollback 88 = .ok (.pop, 1) := by decide +kernel
theorem dX6_rollback_89 : decode cX6_rollback 89 = .ok (.iload 5, 2) := by decide +kernel
theorem dX6_rollback_91 : decode cX6_rollback 91 = .ok (.ireturn, 1) := by decide +kernel
theorem dX6_changed_0 : decode cX6_changed 0 = .ok (.aload_n 0, 1) := by decide +kernel
theorem dX6_changed_1 : decode cX6_changed 1 = .ok (.iload_n 1, 1) := by decide +kernel
theorem dX6_changed_2 : decode cX6_changed 2 = .ok (.invokevirtual 124, 3) := by decide +kernel
theorem dX6_changed_5 : decode cX6_changed 5 = .ok (.getfield 128, 3) := by decide +kernel
theorem dX6_changed_8 : decode cX6_changed 8 = .ok (.astore_n 3, 1) := by decide +kernel
theorem dX6_changed_9 : decode cX6_changed 9 = .ok (.aload_n 0, 1) := by decide +kernel
theorem dX6_changed_10 : decode cX6_changed 10 = .ok (.iload_n 2, 1) := by decide +kernel
theorem dX6_changed_11 : decode cX6_changed 11 = .ok (.invokevirtual 26, 3) := by decide +kernel
theorem dX6_changed_14 : decode cX6_changed 14 = .ok (.getfield 30, 3) := by decide +kernel
theorem dX6_changed_17 : decode cX6_changed 17 = .ok (.astore 4, 2) := by decide +kernel
theorem dX6_changed_19 : decode cX6_changed 19 = .ok (.iconst 0, 1) := by decide +kernel
theorem dX6_changed_20 : decode cX6_changed 20 = .ok (.istore 5, 2) := by decide +kernel
theorem dX6_changed_22 : decode cX6_changed 22 = .ok (.iconst 0, 1) := by decide +kernel
theorem dX6_changed_23 : decode cX6_changed 23 = .ok (.istore 6, 2) := by decide +kernel
theorem dX6_changed_25 : decode cX6_changed 25 = .ok (.iload 6, 2) := by decide +kernel
theorem dX6_changed_27 : decode cX6_changed 27 = .ok (.sipush 128, 3) := by decide +kernel
theorem dX6_changed_30 : decode cX6_changed 30 = .ok (.if_icmp .ge 28, 3) := by decide +kernel
theorem dX6_changed_33 : decode cX6_changed 33 = .ok (.aload_n 3, 1) := by decide +kernel
theorem dX6_changed_34 : decode cX6_changed 34 = .ok (.iload 6, 2) := by decide +kernel
theorem dX6_changed_36 : decode cX6_changed 36 = .ok (.invokevirtual 40, 3) := by decide +kernel
theorem dX6_changed_39 : decode cX6_changed 39 = .ok (.aload 4, 2) := by decide +kernel
theorem dX6_changed_41 : decode cX6_changed 41 = .ok (.iload 6, 2) := by decide +kernel
theorem dX6_changed_43 : decode cX6_changed 43 = .ok (.invokevirtual 40, 3) := by decide +kernel
theorem dX6_changed_46 : decode cX6_changed 46 = .ok (.if_icmp .eq 6, 3) := by decide +kernel
theorem dX6_changed_49 : decode cX6_changed 49 = .ok (.iinc 5 1, 3) := by decide +kernel
theorem dX6_changed_52 : decode cX6_changed 52 = .ok (.iinc 6 1, 3) := by decide +kernel
theorem dX6_changed_55 : decode cX6_changed 55 = .ok (.goto (-30), 3) := by decide +kernel
theorem dX6_changed_58 : decode cX6_changed 58 = .ok (.iload 5, 2) := by decide +kernel
theorem dX6_changed_60 : decode cX6_changed 60 = .ok (.ireturn, 1) := by decide +kernel
theorem dX6_datasets_0 : decode cX6_datasets 0 = .ok (.aload_n 0, 1) := by decide +kernel
theorem dX6_datasets_1 : decode cX6_datasets 1 = .ok (.getfield 12, 3) := by decide +kernel
theorem dX6_datasets_4 : decode cX6_datasets 4 = .ok (.invokevirtual 173, 3) := by decide +kernel
theorem dX6_datasets_7 : decode cX6_datasets 7 = .ok (.ireturn, 1) := by decide +kernel
theorem dX6_makeClone_0 : decode cX6_makeClone 0 = .ok (.aload_n 0, 1) := by decide +kernel
theorem dX6_makeClone_1 : decode cX6_makeClone 1 = .ok (.iload_n 1, 1) := by decide +kernel
theorem dX6_makeClone_2 : decode cX6_makeClone 2 = .ok (.invokevirtual 124, 3) := by decide +kernel
theorem dX6_makeClone_5 : decode cX6_makeClone 5 = .ok (.astore_n 2, 1) := by decide +kernel
theorem dX6_makeClone_6 : decode cX6_makeClone 6 = .ok (.aload_n 0, 1) := by decide +kernel
theorem dX6_makeClone_7 : decode cX6_makeClone 7 = .ok (.getfield 12, 3) := by decide +kernel
theorem dX6_makeClone_10 : decode cX6_makeClone 10 = .ok (.invokevirtual 176, 3) := by decide +kernel
theorem dX6_makeClone_13 : decode cX6_makeClone 13 = .ok (.istore_n 3, 1) := by decide +kernel
theorem dX6_makeClone_14 : decode cX6_makeClone 14 = .ok (.iload_n 3, 1) := by decide +kernel
theorem dX6_makeClone_15 : decode cX6_makeClone 15 = .ok (.iconst (-1), 1) := by decide +kernel
theorem dX6_makeClone_16 : decode cX6_makeClone 16 = .ok (.if_icmp .ne 13, 3) := by decide +kernel
theorem dX6_makeClone_19 : decode cX6_makeClone 19 = .ok (.new 71, 3) := by decide +kernel
theorem dX6_makeClone_22 : decode cX6_makeClone 22 = .ok (.dup, 1) := by decide +kernel
theorem dX6_makeClone_23 : decode cX6_makeClone 23 = .ok (.ldc 179, 2) := by decide +kernel
theorem dX6_makeClone_25 : decode cX6_makeClone 25 = .ok (.invokespecial 75, 3) := by decide +kernel
theorem dX6_makeClone_28 : decode cX6_makeClone 28 = .ok (.athrow, 1) := by decide +kernel
theorem dX6_makeClone_29 : decode cX6_makeClone 29 = .ok (.aload_n 0, 1) := by decide +kernel
theorem dX6_makeClone_30 : decode cX6_makeClone 30 = .ok (.getfield 12, 3) := by decide +kernel
theorem dX6_makeClone_33 : decode cX6_makeClone 33 = .ok (.iload_n 3, 1) := by decide +kernel
theorem dX6_makeClone_34 : decode cX6_makeClone 34 = .ok (.aload_n 2, 1) := by decide +kernel
theorem dX6_makeClone_35 : decode cX6_makeClone 35 = .ok (.invokevirtual 181, 3) := by decide +kernel
theorem dX6_makeClone_38 : decode cX6_makeClone 38 = .ok (.iload_n 3, 1) := by decide +kernel
theorem dX6_makeClone_39 : decode cX6_makeClone 39 = .ok (.ireturn, 1) := by decide +kernel
theorem dX6_origin_0 : decode cX6_origin 0 = .ok (.aload_n 0, 1) := by decide +kernel
theorem dX6_origin_1 : decode cX6_origin 1 = .ok (.iload_n 1, 1) := by decide +kernel
theorem dX6_origin_2 : decode cX6_origin 2 = .ok (.invokevirtual 26, 3) := by decide +kernel
theorem dX6_origin_5 : decode cX6_origin 5 = .ok (.getfield 185, 3) := by decide +kernel
theorem dX6_origin_8 : decode cX6_origin 8 = .ok (.ireturn, 1) := by decide +kernel
theorem dX6_promote_0 : decode cX6_promote 0 = .ok (.aload_n 0, 1) := by decide +kernel
theorem dX6_promote_1 : decode cX6_promote 1 = .ok (.iload_n 1, 1) := by decide +kernel
theorem dX6_promote_2 : decode cX6_promote 2 = .ok (.invokevirtual 26, 3) := by decide +kernel
theorem dX6_promote_5 : decode cX6_promote 5 = .ok (.astore_n 2, 1) := by decide +kernel
theorem dX6_promote_6 : decode cX6_promote 6 = .ok (.aload_n 0, 1) := by decide +kernel
theorem dX6_promote_7 : decode cX6_promote 7 = .ok (.getfield 12, 3) := by decide +kernel
theorem dX6_promote_10 : decode cX6_promote 10 = .ok (.aload_n 2, 1) := by decide +kernel
theorem dX6_promote_11 : decode cX6_promote 11 = .ok (.getfield 185, 3) := by decide +kernel
theorem dX6_promote_14 : decode cX6_promote 14 = .ok (.invokevirtual 188, 3) := by decide +kernel
theorem dX6_promote_17 : decode cX6_promote 17 = .ok (.astore_n 3, 1) := by decide +kernel
theorem dX6_promote_18 : decode cX6_promote 18 = .ok (.aload_n 3, 1) := by decide +kernel
theorem dX6_promote_19 : decode cX6_promote 19 = .ok (.ifnonnull 13, 3) := by decide +kernel
theorem dX6_promote_22 : decode cX6_promote 22 = .ok (.new 71, 3) := by decide +kernel
theorem dX6_promote_25 : decode cX6_promote 25 = .ok (.dup, 1) := by decide +kernel
theorem dX6_promote_26 : decode cX6_promote 26 = .ok (.ldc 191, 2) := by decide +kernel
theorem dX6_promote_28 : decode cX6_promote 28 = .ok (.invokespecial 75, 3) := by decide +kernel
theorem dX6_promote_31 : decode cX6_promote 31 = .ok (.athrow, 1) := by decide +kernel
theorem dX6_promote_32 : decode cX6_promote 32 = .ok (.aload_n 0, 1) := by decide +kernel
theorem dX6_promote_33 : decode cX6_promote 33 = .ok (.getfield 12, 3) := by decide +kernel
theorem dX6_promote_36 : decode cX6_promote 36 = .ok (.aload_n 3, 1) := by decide +kernel
theorem dX6_promote_37 : decode cX6_promote 37 = .ok (.getfield 132, 3) := by decide +kernel
theorem dX6_promote_40 : decode cX6_promote 40 = .ok (.invokevirtual 193, 3) := by decide +kernel
theorem dX6_promote_43 : decode cX6_promote 43 = .ok (.astore 4, 2) := by decide +kernel
theorem dX6_promote_45 : decode cX6_promote 45 = .ok (.aload 4, 2) := by decide +kernel
theorem dX6_promote_47 : decode cX6_promote 47 = .ok (.ifnull 30, 3) := by decide +kernel
theorem dX6_promote_50 : decode cX6_promote 50 = .ok (.aload_n 0, 1) := by decide +kernel
theorem dX6_promote_51 : decode cX6_promote 51 = .ok (.getfield 12, 3) := by decide +kernel
theorem dX6_promote_54 : decode cX6_promote 54 = .ok (.aload_n 3, 1) := by decide +kernel
theorem dX6_promote_55 : decode cX6_promote 55 = .ok (.iload_n 1, 1) := by decide +kernel
theorem dX6_promote_56 : decode cX6_promote 56 = .ok (.invokevirtual 196, 3) := by decide +kernel
theorem dX6_promote_59 : decode cX6_promote 59 = .ok (.aload_n 2, 1) := by decide +kernel
theorem dX6_promote_60 : decode cX6_promote 60 = .ok (.aload 4, 2) := by decide +kernel
theorem dX6_promote_62 : decode cX6_promote 62 = .ok (.getfield 185, 3) := by decide +kernel
theorem dX6_promote_65 : decode cX6_promote 65 = .ok (.putfield 185, 3) := by decide +kernel
theorem dX6_promote_68 : decode cX6_promote 68 = .ok (.aload 4, 2) := by decide +kernel
theorem dX6_promote_70 : decode cX6_promote 70 = .ok (.aload_n 3, 1) := by decide +kernel
theorem dX6_promote_71 : decode cX6_promote 71 = .ok (.getfield 121, 3) := by decide +kernel
theorem dX6_promote_74 : decode cX6_promote 74 = .ok (.putfield 185, 3) := by decide +kernel
theorem dX6_promote_77 : decode cX6_promote 77 = .ok (.aload_n 0, 1) := by decide +kernel
theorem dX6_promote_78 : decode cX6_promote 78 = .ok (.getfield 12, 3) := by decide +kernel
theorem dX6_promote_81 : decode cX6_promote 81 = .ok (.iload_n 1, 1) := by decide +kernel
theorem dX6_promote_82 : decode cX6_promote 82 = .ok (.invokevirtual 135, 3) := by decide +kernel
theorem dX6_promote_85 : decode cX6_promote 85 = .ok (.ireturn, 1) := by decide +kernel
theorem dX6_destroy_0 : decode cX6_destroy 0 = .ok (.aload_n 0, 1) := by decide +kernel
theorem dX6_destroy_1 : decode cX6_destroy 1 = .ok (.iload_n 1, 1) := by decide +kernel
theorem dX6_destroy_2 : decode cX6_destroy 2 = .ok (.invokevirtual 26, 3) := by decide +kernel
theorem dX6_destroy_5 : decode cX6_destroy 5 = .ok (.astore_n 2, 1) := by decide +kernel
theorem dX6_destroy_6 : decode cX6_destroy 6 = .ok (.aload_n 0, 1) := by decide +kernel
theorem dX6_destroy_7 : decode cX6_destroy 7 = .ok (.getfield 12, 3) := by decide +kernel
theorem dX6_destroy_10 : decode cX6_destroy 10 = .ok (.iload_n 1, 1) := by decide +kernel
theorem dX6_destroy_11 : decode cX6_destroy 11 = .ok (.invokevirtual 135, 3) := by decide +kernel
theorem dX6_destroy_14 : decode cX6_destroy 14 = .ok (.ifCond .le 13, 3) := by decide +kernel
theorem dX6_destroy_17 : decode cX6_destroy 17 = .ok (.new 71, 3) := by decide +kernel
theorem dX6_destroy_20 : decode cX6_destroy 20 = .ok (.dup, 1) := by decide +kernel
theorem dX6_destroy_21 : decode cX6_destroy 21 = .ok (.ldc 200, 2) := by decide +kernel
theorem dX6_destroy_23 : decode cX6_destroy 23 = .ok (.invokespecial 75, 3) := by decide +kernel
theorem dX6_destroy_26 : decode cX6_destroy 26 = .ok (.athrow, 1) := by decide +kernel
theorem dX6_destroy_27 : decode cX6_destroy 27 = .ok (.aload_n 0, 1) := by decide +kernel
theorem dX6_destroy_28 : decode cX6_destroy 28 = .ok (.getfield 12, 3) := by decide +kernel
theorem dX6_destroy_31 : decode cX6_destroy 31 = .ok (.invokevirtual 173, 3) := by decide +kernel
theorem dX6_destroy_34 : decode cX6_destroy 34 = .ok (.iconst 1, 1) := by decide +kernel
theorem dX6_destroy_35 : decode cX6_destroy 35 = .ok (.if_icmp .ne 13, 3) := by decide +kernel
theorem dX6_destroy_38 : decode cX6_destroy 38 = .ok (.new 71, 3) := by decide +kernel
theorem dX6_destroy_41 : decode cX6_destroy 41 = .ok (.dup, 1) := by decide +kernel
theorem dX6_destroy_42 : decode cX6_destroy 42 = .ok (.ldc 202, 2) := by decide +kernel
theorem dX6_destroy_44 : decode cX6_destroy 44 = .ok (.invokespecial 75, 3) := by decide +kernel
theorem dX6_destroy_47 : decode cX6_destroy 47 = .ok (.athrow, 1) := by decide +kernel
theorem dX6_destroy_48 : decode cX6_destroy 48 = .ok (.aload_n 0, 1) := by decide +kernel
theorem dX6_destroy_49 : decode cX6_destroy 49 = .ok (.getfield 12, 3) := by decide +kernel
theorem dX6_destroy_52 : decode cX6_destroy 52 = .ok (.aload_n 2, 1) := by decide +kernel
theorem dX6_destroy_53 : decode cX6_destroy 53 = .ok (.getfield 30, 3) := by decide +kernel
theorem dX6_destroy_56 : decode cX6_destroy 56 = .ok (.invokevirtual 204, 3) := by decide +kernel
theorem dX6_destroy_59 : decode cX6_destroy 59 = .ok (.aload_n 2, 1) := by decide +kernel
theorem dX6_destroy_60 : decode cX6_destroy 60 = .ok (.iconst 0, 1) := by decide +kernel
theorem dX6_destroy_61 : decode cX6_destroy 61 = .ok (.putfield 208, 3) := by decide +kernel
theorem dX6_destroy_64 : decode cX6_destroy 64 = .ok (.aload_n 2, 1) := by decide +kernel
theorem dX6_destroy_65 : decode cX6_destroy 65 = .ok (.iconst (-1), 1) := by decide +kernel
theorem dX6_destroy_66 : decode cX6_destroy 66 = .ok (.putfield 185, 3) := by decide +kernel
theorem dX6_destroy_69 : decode cX6_destroy 69 = .ok (.aload_n 0, 1) := by decide +kernel
theorem dX6_destroy_70 : decode cX6_destroy 70 = .ok (.getfield 12, 3) := by decide +kernel
theorem dX6_destroy_73 : decode cX6_destroy 73 = .ok (.invokevirtual 86, 3) := by decide +kernel
theorem dX6_destroy_76 : decode cX6_destroy 76 = .ok (.ireturn, 1) := by decide +kernel
theorem dX6_referenced_0 : decode cX6_referenced 0 = .ok (.aload_n 0, 1) := by decide +kernel
theorem dX6_referenced_1 : decode cX6_referenced 1 = .ok (.aload_n 0, 1) := by decide +kernel
theorem dX6_referenced_2 : decode cX6_referenced 2 = .ok (.iload_n 1, 1) := by decide +kernel
theorem dX6_referenced_3 : decode cX6_referenced 3 = .ok (.invokevirtual 26, 3) := by decide +kernel
theorem dX6_referenced_6 : decode cX6_referenced 6 = .ok (.getfield 30, 3) := by decide +kernel
theorem dX6_referenced_9 : decode cX6_referenced 9 = .ok (.invokevirtual 212, 3) := by decide +kernel
theorem dX6_referenced_12 : decode cX6_referenced 12 = .ok (.iconst 0, 1) := by decide +kernel
theorem dX6_referenced_13 : decode cX6_referenced 13 = .ok (.istore_n 2, 1) := by decide +kernel
theorem dX6_referenced_14 : decode cX6_referenced 14 = .ok (.iconst 0, 1) := by decide +kernel
theorem dX6_referenced_15 : decode cX6_referenced 15 = .ok (.istore_n 3, 1) := by decide +kernel
theorem dX6_referenced_16 : decode cX6_referenced 16 = .ok (.iload_n 3, 1) := by decide +kernel
theorem dX6_referenced_17 : decode cX6_referenced 17 = .ok (.aload_n 0, 1) := by decide +kernel
theorem dX6_referenced_18 : decode cX6_referenced 18 = .ok (.getfield 23, 3) := by decide +kernel
theorem dX6_referenced_21 : decode cX6_referenced 21 = .ok (.arraylength, 1) := by decide +kernel
theorem dX6_referenced_22 : decode cX6_referenced 22 = .ok (.if_icmp .ge 21, 3) := by decide +kernel
theorem dX6_referenced_25 : decode cX6_referenced 25 = .ok (.aload_n 0, 1) := by decide +kernel
theorem dX6_referenced_26 : decode cX6_referenced 26 = .ok (.getfield 23, 3) := by decide +kernel
theorem dX6_referenced_29 : decode cX6_referenced 29 = .ok (.iload_n 3, 1) := by decide +kernel
theorem dX6_referenced_30 : decode cX6_referenced 30 = .ok (.iaload, 1) := by decide +kernel
theorem dX6_referenced_31 : decode cX6_referenced 31 = .ok (.ifCond .le 6, 3) := by decide +kernel
theorem dX6_referenced_34 : decode cX6_referenced 34 = .ok (.iinc 2 1, 3) := by decide +kernel
theorem dX6_referenced_37 : decode cX6_referenced 37 = .ok (.iinc 3 1, 3) := by decide +kernel
theorem dX6_referenced_40 : decode cX6_referenced 40 = .ok (.goto (-24), 3) := by decide +kernel
theorem dX6_referenced_43 : decode cX6_referenced 43 = .ok (.iload_n 2, 1) := by decide +kernel
theorem dX6_referenced_44 : decode cX6_referenced 44 = .ok (.ireturn, 1) := by decide +kernel
theorem dX6_unique_0 : decode cX6_unique 0 = .ok (.aload_n 0, 1) := by decide +kernel
theorem dX6_unique_1 : decode cX6_unique 1 = .ok (.aload_n 0, 1) := by decide +kernel
theorem dX6_unique_2 : decode cX6_unique 2 = .ok (.iload_n 1, 1) := by decide +kernel
theorem dX6_unique_3 : decode cX6_unique 3 = .ok (.invokevirtual 26, 3) := by decide +kernel
theorem dX6_unique_6 : decode cX6_unique 6 = .ok (.getfield 30, 3) := by decide +kernel
theorem dX6_unique_9 : decode cX6_unique 9 = .ok (.invokevirtual 215, 3) := by decide +kernel
theorem dX6_unique_12 : decode cX6_unique 12 = .ok (.ireturn, 1) := by decide +kernel
theorem dX6_uniqueOfSnapshot_0 : decode cX6_uniqueOfSnapshot 0 = .ok (.aload_n 0, 1) := by decide +kernel
theorem dX6_uniqueOfSnapshot_1 : decode cX6_uniqueOfSnapshot 1 = .ok (.aload_n 0, 1) := by decide +kernel
theorem dX6_uniqueOfSnapshot_2 : decode cX6_uniqueOfSnapshot 2 = .ok (.iload_n 1, 1) := by decide +kernel
theorem dX6_uniqueOfSnapshot_3 : decode cX6_uniqueOfSnapshot 3 = .ok (.invokevirtual 124, 3) := by decide +kernel
theorem dX6_uniqueOfSnapshot_6 : decode cX6_uniqueOfSnapshot 6 = .ok (.getfield 128, 3) := by decide +kernel
theorem dX6_uniqueOfSnapshot_9 : decode cX6_uniqueOfSnapshot 9 = .ok (.invokevirtual 215, 3) := by decide +kernel
theorem dX6_uniqueOfSnapshot_12 : decode cX6_uniqueOfSnapshot 12 = .ok (.ireturn, 1) := by decide +kernel
theorem dX6_newer_0 : decode cX6_newer 0 = .ok (.aload_n 0, 1) := by decide +kernel
theorem dX6_newer_1 : decode cX6_newer 1 = .ok (.iload_n 1, 1) := by decide +kernel
theorem dX6_newer_2 : decode cX6_newer 2 = .ok (.invokevirtual 26, 3) := by decide +kernel
theorem dX6_newer_5 : decode cX6_newer 5 = .ok (.getfield 30, 3) := by decide +kernel
theorem dX6_newer_8 : decode cX6_newer 8 = .ok (.astore_n 3, 1) := by decide +kernel
theorem dX6_newer_9 : decode cX6_newer 9 = .ok (.iconst 0, 1) := by decide +kernel
theorem dX6_newer_10 : decode cX6_newer 10 = .ok (.istore 4, 2) := by decide +kernel
theorem dX6_newer_12 : decode cX6_newer 12 = .ok (.iconst 0, 1) := by decide +kernel
theorem dX6_newer_13 : decode cX6_newer 13 = .ok (.istore 5, 2) := by decide +kernel
theorem dX6_newer_15 : decode cX6_newer 15 = .ok (.iload 5, 2) := by decide +kernel
theorem dX6_newer_17 : decode cX6_newer 17 = .ok (.sipush 128, 3) := by decide +kernel
theorem dX6_newer_20 : decode cX6_newer 20 = .ok (.if_icmp .ge 42, 3) := by decide +kernel
theorem dX6_newer_23 : decode cX6_newer 23 = .ok (.aload_n 3, 1) := by decide +kernel
theorem dX6_newer_24 : decode cX6_newer 24 = .ok (.iload 5, 2) := by decide +kernel
theorem dX6_newer_26 : decode cX6_newer 26 = .ok (.invokevirtual 40, 3) := by decide +kernel
theorem dX6_newer_29 : decode cX6_newer 29 = .ok (.istore 6, 2) := by decide +kernel
theorem dX6_newer_31 : decode cX6_newer 31 = .ok (.iload 6, 2) := by decide +kernel
theorem dX6_newer_33 : decode cX6_newer 33 = .ok (.iconst (-1), 1) := by decide +kernel
theorem dX6_newer_34 : decode cX6_newer 34 = .ok (.if_icmp .eq 22, 3) := by decide +kernel
theorem dX6_newer_37 : decode cX6_newer 37 = .ok (.aload_n 0, 1) := by decide +kernel
theorem dX6_newer_38 : decode cX6_newer 38 = .ok (.getfield 12, 3) := by decide +kernel
theorem dX6_newer_41 : decode cX6_newer 41 = .ok (.getfield 46, 3) := by decide +kernel
theorem dX6_newer_44 : decode cX6_newer 44 = .ok (.iload 6, 2) := by decide +kernel
theorem dX6_newer_46 : decode cX6_newer 46 = .ok (.invokevirtual 219, 3) := by decide +kernel
theorem dX6_newer_49 : decode cX6_newer 49 = .ok (.iload_n 2, 1) := by decide +kernel
theorem dX6_newer_50 : decode cX6_newer 50 = .ok (.if_icmp .le 6, 3) := by decide +kernel
theorem dX6_newer_53 : decode cX6_newer 53 = .ok (.iinc 4 1, 3) := by decide +kernel
theorem dX6_newer_56 : decode cX6_newer 56 = .ok (.iinc 5 1, 3) := by decide +kernel
theorem dX6_newer_59 : decode cX6_newer 59 = .ok (.goto (-44), 3) := by decide +kernel
theorem dX6_newer_62 : decode cX6_newer 62 = .ok (.iload 4, 2) := by decide +kernel
theorem dX6_newer_64 : decode cX6_newer 64 = .ok (.ireturn, 1) := by decide +kernel
theorem dX6_birth_0 : decode cX6_birth 0 = .ok (.iload_n 1, 1) := by decide +kernel
theorem dX6_birth_1 : decode cX6_birth 1 = .ok (.invokestatic 222, 3) := by decide +kernel
theorem dX6_birth_4 : decode cX6_birth 4 = .ok (.aload_n 0, 1) := by decide +kernel
theorem dX6_birth_5 : decode cX6_birth 5 = .ok (.getfield 12, 3) := by decide +kernel
theorem dX6_birth_8 : decode cX6_birth 8 = .ok (.getfield 46, 3) := by decide +kernel
theorem dX6_birth_11 : decode cX6_birth 11 = .ok (.iload_n 1, 1) := by decide +kernel
theorem dX6_birth_12 : decode cX6_birth 12 = .ok (.invokevirtual 226, 3) := by decide +kernel
theorem dX6_birth_15 : decode cX6_birth 15 = .ok (.ifCond .ne 13, 3) := by decide +kernel
theorem dX6_birth_18 : decode cX6_birth 18 = .ok (.new 71, 3) := by decide +kernel
theorem dX6_birth_21 : decode cX6_birth 21 = .ok (.dup, 1) := by decide +kernel
theorem dX6_birth_22 : decode cX6_birth 22 = .ok (.ldc 229, 2) := by decide +kernel
theorem dX6_birth_24 : decode cX6_birth 24 = .ok (.invokespecial 75, 3) := by decide +kernel
theorem dX6_birth_27 : decode cX6_birth 27 = .ok (.athrow, 1) := by decide +kernel
theorem dX6_birth_28 : decode cX6_birth 28 = .ok (.aload_n 0, 1) := by decide +kernel
theorem dX6_birth_29 : decode cX6_birth 29 = .ok (.getfield 12, 3) := by decide +kernel
theorem dX6_birth_32 : decode cX6_birth 32 = .ok (.getfield 46, 3) := by decide +kernel
theorem dX6_birth_35 : decode cX6_birth 35 = .ok (.iload_n 1, 1) := by decide +kernel
theorem dX6_birth_36 : decode cX6_birth 36 = .ok (.invokevirtual 219, 3) := by decide +kernel
theorem dX6_birth_39 : decode cX6_birth 39 = .ok (.ireturn, 1) := by decide +kernel
theorem dX6_references_0 : decode cX6_references 0 = .ok (.iload_n 1, 1) := by decide +kernel
theorem dX6_references_1 : decode cX6_references 1 = .ok (.invokestatic 222, 3) := by decide +kernel
theorem dX6_references_4 : decode cX6_references 4 = .ok (.aload_n 0, 1) := by decide +kernel
theorem dX6_references_5 : decode cX6_references 5 = .ok (.getfield 12, 3) := by decide +kernel
theorem dX6_references_8 : decode cX6_references 8 = .ok (.getfield 46, 3) := by decide +kernel
theorem dX6_references_11 : decode cX6_references 11 = .ok (.iload_n 1, 1) := by decide +kernel
theorem dX6_references_12 : decode cX6_references 12 = .ok (.invokevirtual 60, 3) := by decide +kernel
theorem dX6_references_15 : decode cX6_references 15 = .ok (.ireturn, 1) := by decide +kernel
theorem dX6_free_0 : decode cX6_free 0 = .ok (.aload_n 0, 1) := by decide +kernel
theorem dX6_free_1 : decode cX6_free 1 = .ok (.getfield 12, 3) := by decide +kernel
theorem dX6_free_4 : decode cX6_free 4 = .ok (.getfield 46, 3) := by decide +kernel
theorem dX6_free_7 : decode cX6_free 7 = .ok (.iconst 0, 1) := by decide +kernel
theorem dX6_free_8 : decode cX6_free 8 = .ok (.iconst 0, 1) := by decide +kernel
theorem dX6_free_9 : decode cX6_free 9 = .ok (.sipush 128, 3) := by decide +kernel
theorem dX6_free_12 : decode cX6_free 12 = .ok (.invokevirtual 231, 3) := by decide +kernel
theorem dX6_free_15 : decode cX6_free 15 = .ok (.ireturn, 1) := by decide +kernel
theorem dX6_pending_0 : decode cX6_pending 0 = .ok (.aload_n 0, 1) := by decide +kernel
theorem dX6_pending_1 : decode cX6_pending 1 = .ok (.getfield 12, 3) := by decide +kernel
theorem dX6_pending_4 : decode cX6_pending 4 = .ok (.getfield 46, 3) := by decide +kernel
theorem dX6_pending_7 : decode cX6_pending 7 = .ok (.iconst 2, 1) := by decide +kernel
theorem dX6_pending_8 : decode cX6_pending 8 = .ok (.iconst 0, 1) := by decide +kernel
theorem dX6_pending_9 : decode cX6_pending 9 = .ok (.sipush 128, 3) := by decide +kernel
theorem dX6_pending_12 : decode cX6_pending 12 = .ok (.invokevirtual 231, 3) := by decide +kernel
theorem dX6_pending_15 : decode cX6_pending 15 = .ok (.ireturn, 1) := by decide +kernel
theorem dX6_freeIn_0 : decode cX6_freeIn 0 = .ok (.iload_n 1, 1) := by decide +kernel
theorem dX6_freeIn_1 : decode cX6_freeIn 1 = .ok (.invokestatic 235, 3) := by decide +kernel
theorem dX6_freeIn_4 : decode cX6_freeIn 4 = .ok (.aload_n 0, 1) := by decide +kernel
theorem dX6_freeIn_5 : decode cX6_freeIn 5 = .ok (.getfield 12, 3) := by decide +kernel
theorem dX6_freeIn_8 : decode cX6_freeIn 8 = .ok (.getfield 46, 3) := by decide +kernel
theorem dX6_freeIn_11 : decode cX6_freeIn 11 = .ok (.iload_n 1, 1) := by decide +kernel
theorem dX6_freeIn_12 : decode cX6_freeIn 12 = .ok (.invokevirtual 238, 3) := by decide +kernel
theorem dX6_freeIn_15 : decode cX6_freeIn 15 = .ok (.ireturn, 1) := by decide +kernel
theorem dX6_logEntries_0 : decode cX6_logEntries 0 = .ok (.aload_n 0, 1) := by decide +kernel
theorem dX6_logEntries_1 : decode cX6_logEntries 1 = .ok (.iload_n 1, 1) := by decide +kernel
theorem dX6_logEntries_2 : decode cX6_logEntries 2 = .ok (.invokevirtual 241, 3) := by decide +kernel
theorem dX6_logEntries_5 : decode cX6_logEntries 5 = .ok (.getfield 245, 3) := by decide +kernel
theorem dX6_logEntries_8 : decode cX6_logEntries 8 = .ok (.ireturn, 1) := by decide +kernel
theorem dX6_runAt_0 : decode cX6_runAt 0 = .ok (.aload_n 0, 1) := by decide +kernel
theorem dX6_runAt_1 : decode cX6_runAt 1 = .ok (.iload_n 1, 1) := by decide +kernel
theorem dX6_runAt_2 : decode cX6_runAt 2 = .ok (.iload_n 2, 1) := by decide +kernel
theorem dX6_runAt_3 : decode cX6_runAt 3 = .ok (.invokevirtual 250, 3) := by decide +kernel
theorem dX6_runAt_6 : decode cX6_runAt 6 = .ok (.astore_n 3, 1) := by decide +kernel
theorem dX6_runAt_7 : decode cX6_runAt 7 = .ok (.bipush 100, 2) := by decide +kernel
theorem dX6_runAt_9 : decode cX6_runAt 9 = .ok (.aload_n 3, 1) := by decide +kernel
theorem dX6_runAt_10 : decode cX6_runAt 10 = .ok (.iload_n 2, 1) := by decide +kernel
theorem dX6_runAt_11 : decode cX6_runAt 11 = .ok (.invokevirtual 254, 3) := by decide +kernel
theorem dX6_runAt_14 : decode cX6_runAt 14 = .ok (.imul, 1) := by decide +kernel
theorem dX6_runAt_15 : decode cX6_runAt 15 = .ok (.aload_n 3, 1) := by decide +kernel
theorem dX6_runAt_16 : decode cX6_runAt 16 = .ok (.iload_n 2, 1) := by decide +kernel
theorem dX6_runAt_17 : decode cX6_runAt 17 = .ok (.invokevirtual 257, 3) := by decide +kernel
theorem dX6_runAt_20 : decode cX6_runAt 20 = .ok (.iadd, 1) := by decide +kernel
theorem dX6_runAt_21 : decode cX6_runAt 21 = .ok (.ireturn, 1) := by decide +kernel
theorem dX6_allocates_0 : decode cX6_allocates 0 = .ok (.aload_n 0, 1) := by decide +kernel
theorem dX6_allocates_1 : decode cX6_allocates 1 = .ok (.iload_n 1, 1) := by decide +kernel
theorem dX6_allocates_2 : decode cX6_allocates 2 = .ok (.iload_n 2, 1) := by decide +kernel
theorem dX6_allocates_3 : decode cX6_allocates 3 = .ok (.invokevirtual 250, 3) := by decide +kernel
theorem dX6_allocates_6 : decode cX6_allocates 6 = .ok (.iload_n 2, 1) := by decide +kernel
theorem dX6_allocates_7 : decode cX6_allocates 7 = .ok (.invokevirtual 260, 3) := by decide +kernel
theorem dX6_allocates_10 : decode cX6_allocates 10 = .ok (.ireturn, 1) := by decide +kernel
theorem dX6_replay_0 : decode cX6_replay 0 = .ok (.aload_n 0, 1) := by decide +kernel
theorem dX6_replay_1 : decode cX6_replay 1 = .ok (.iload_n 1, 1) := by decide +kernel
theorem dX6_replay_2 : decode cX6_replay 2 = .ok (.invokevirtual 241, 3) := by decide +kernel
theorem dX6_replay_5 : decode cX6_replay 5 = .ok (.invokevirtual 263, 3) := by decide +kernel
theorem dX6_replay_8 : decode cX6_replay 8 = .ok (.ireturn, 1) := by decide +kernel
theorem dX6_condensed_0 : decode cX6_condensed 0 = .ok (.aload_n 0, 1) := by decide +kernel
theorem dX6_condensed_1 : decode cX6_condensed 1 = .ok (.getfield 12, 3) := by decide +kernel
theorem dX6_condensed_4 : decode cX6_condensed 4 = .ok (.getfield 266, 3) := by decide +kernel
theorem dX6_condensed_7 : decode cX6_condensed 7 = .ok (.ireturn, 1) := by decide +kernel
theorem dX6_datasetOrThrow_0 : decode cX6_datasetOrThrow 0 = .ok (.aload_n 0, 1) := by decide +kernel
theorem dX6_datasetOrThrow_1 : decode cX6_datasetOrThrow 1 = .ok (.getfield 12, 3) := by decide +kernel
theorem dX6_datasetOrThrow_4 : decode cX6_datasetOrThrow 4 = .ok (.iload_n 1, 1) := by decide +kernel
theorem dX6_datasetOrThrow_5 : decode cX6_datasetOrThrow 5 = .ok (.invokevirtual 193, 3) := by decide +kernel
theorem dX6_datasetOrThrow_8 : decode cX6_datasetOrThrow 8 = .ok (.astore_n 2, 1) := by decide +kernel
theorem dX6_datasetOrThrow_9 : decode cX6_datasetOrThrow 9 = .ok (.aload_n 2, 1) := by decide +kernel
theorem dX6_datasetOrThrow_10 : decode cX6_datasetOrThrow 10 = .ok (.ifnonnull 14, 3) := by decide +kernel
theorem dX6_datasetOrThrow_13 : decode cX6_datasetOrThrow 13 = .ok (.new 142, 3) := by decide +kernel
theorem dX6_datasetOrThrow_16 : decode cX6_datasetOrThrow 16 = .ok (.dup, 1) := by decide +kernel
theorem dX6_datasetOrThrow_17 : decode cX6_datasetOrThrow 17 = .ok (.ldc_w 269, 3) := by decide +kernel
theorem dX6_datasetOrThrow_20 : decode cX6_datasetOrThrow 20 = .ok (.invokespecial 146, 3) := by decide +kernel
theorem dX6_datasetOrThrow_23 : decode cX6_datasetOrThrow 23 = .ok (.athrow, 1) := by decide +kernel
theorem dX6_datasetOrThrow_24 : decode cX6_datasetOrThrow 24 = .ok (.aload_n 2, 1) := by decide +kernel
theorem dX6_datasetOrThrow_25 : decode cX6_datasetOrThrow 25 = .ok (.areturn, 1) := by decide +kernel
theorem dX6_snapshotOrThrow_0 : decode cX6_snapshotOrThrow 0 = .ok (.aload_n 0, 1) := by decide +kernel
theorem dX6_snapshotOrThrow_1 : decode cX6_snapshotOrThrow 1 = .ok (.getfield 12, 3) := by decide +kernel
theorem dX6_snapshotOrThrow_4 : decode cX6_snapshotOrThrow 4 = .ok (.iload_n 1, 1) := by decide +kernel
theorem dX6_snapshotOrThrow_5 : decode cX6_snapshotOrThrow 5 = .ok (.invokevirtual 188, 3) := by decide +kernel
theorem dX6_snapshotOrThrow_8 : decode cX6_snapshotOrThrow 8 = .ok (.astore_n 2, 1) := by decide +kernel
theorem dX6_snapshotOrThrow_9 : decode cX6_snapshotOrThrow 9 = .ok (.aload_n 2, 1) := by decide +kernel
theorem dX6_snapshotOrThrow_10 : decode cX6_snapshotOrThrow 10 = .ok (.ifnonnull 14, 3) := by decide +kernel
theorem dX6_snapshotOrThrow_13 : decode cX6_snapshotOrThrow 13 = .ok (.new 142, 3) := by decide +kernel
theorem dX6_snapshotOrThrow_16 : decode cX6_snapshotOrThrow 16 = .ok (.dup, 1) := by decide +kernel
theorem dX6_snapshotOrThrow_17 : decode cX6_snapshotOrThrow 17 = .ok (.ldc_w 271, 3) := by decide +kernel
theorem dX6_snapshotOrThrow_20 : decode cX6_snapshotOrThrow 20 = .ok (.invokespecial 146, 3) := by decide +kernel
theorem dX6_snapshotOrThrow_23 : decode cX6_snapshotOrThrow 23 = .ok (.athrow, 1) := by decide +kernel
theorem dX6_snapshotOrThrow_24 : decode cX6_snapshotOrThrow 24 = .ok (.aload_n 2, 1) := by decide +kernel
theorem dX6_snapshotOrThrow_25 : decode cX6_snapshotOrThrow 25 = .ok (.areturn, 1) := by decide +kernel
theorem dX6_placeOrThrow_0 : decode cX6_placeOrThrow 0 = .ok (.iload_n 0, 1) := by decide +kernel
theorem dX6_placeOrThrow_1 : decode cX6_placeOrThrow 1 = .ok (.ifCond .lt 9, 3) := by decide +kernel
theorem dX6_placeOrThrow_4 : decode cX6_placeOrThrow 4 = .ok (.iload_n 0, 1) := by decide +kernel
theorem dX6_placeOrThrow_5 : decode cX6_placeOrThrow 5 = .ok (.bipush 8, 2) := by decide +kernel
theorem dX6_placeOrThrow_7 : decode cX6_placeOrThrow 7 = .ok (.if_icmp .lt 14, 3) := by decide +kernel
theorem dX6_placeOrThrow_10 : decode cX6_placeOrThrow 10 = .ok (.new 142, 3) := by decide +kernel
theorem dX6_placeOrThrow_13 : decode cX6_placeOrThrow 13 = .ok (.dup, 1) := by decide +kernel
theorem dX6_placeOrThrow_14 : decode cX6_placeOrThrow 14 = .ok (.ldc_w 273, 3) := by decide +kernel
theorem dX6_placeOrThrow_17 : decode cX6_placeOrThrow 17 = .ok (.invokespecial 146, 3) := by decide +kernel
theorem dX6_placeOrThrow_20 : decode cX6_placeOrThrow 20 = .ok (.athrow, 1) := by decide +kernel
theorem dX6_placeOrThrow_21 : decode cX6_placeOrThrow 21 = .ok (.iload_n 1, 1) := by decide +kernel
theorem dX6_placeOrThrow_22 : decode cX6_placeOrThrow 22 = .ok (.ifCond .lt 9, 3) := by decide +kernel
theorem dX6_placeOrThrow_25 : decode cX6_placeOrThrow 25 = .ok (.iload_n 1, 1) := by decide +kernel
theorem dX6_placeOrThrow_26 : decode cX6_placeOrThrow 26 = .ok (.bipush 16, 2) := by decide +kernel
theorem dX6_placeOrThrow_28 : decode cX6_placeOrThrow 28 = .ok (.if_icmp .lt 14, 3) := by decide +kernel
theorem dX6_placeOrThrow_31 : decode cX6_placeOrThrow 31 = .ok (.new 142, 3) := by decide +kernel
theorem dX6_placeOrThrow_34 : decode cX6_placeOrThrow 34 = .ok (.dup, 1) := by decide +kernel
theorem dX6_placeOrThrow_35 : decode cX6_placeOrThrow 35 = .ok (.ldc_w 275, 3) := by decide +kernel
theorem dX6_placeOrThrow_38 : decode cX6_placeOrThrow 38 = .ok (.invokespecial 146, 3) := by decide +kernel
theorem dX6_placeOrThrow_41 : decode cX6_placeOrThrow 41 = .ok (.athrow, 1) := by decide +kernel
theorem dX6_placeOrThrow_42 : decode cX6_placeOrThrow 42 = .ok (.iload_n 0, 1) := by decide +kernel
theorem dX6_placeOrThrow_43 : decode cX6_placeOrThrow 43 = .ok (.bipush 16, 2) := by decide +kernel
theorem dX6_placeOrThrow_45 : decode cX6_placeOrThrow 45 = .ok (.imul, 1) := by decide +kernel
theorem dX6_placeOrThrow_46 : decode cX6_placeOrThrow 46 = .ok (.iload_n 1, 1) := by decide +kernel
theorem dX6_placeOrThrow_47 : decode cX6_placeOrThrow 47 = .ok (.iadd, 1) := by decide +kernel
theorem dX6_placeOrThrow_48 : decode cX6_placeOrThrow 48 = .ok (.ireturn, 1) := by decide +kernel
theorem dX6_blockOrThrow_0 : decode cX6_blockOrThrow 0 = .ok (.iload_n 0, 1) := by decide +kernel
theorem dX6_blockOrThrow_1 : decode cX6_blockOrThrow 1 = .ok (.ifCond .lt 10, 3) := by decide +kernel
theorem dX6_blockOrThrow_4 : decode cX6_blockOrThrow 4 = .ok (.iload_n 0, 1) := by decide +kernel
theorem dX6_blockOrThrow_5 : decode cX6_blockOrThrow 5 = .ok (.sipush 128, 3) := by decide +kernel
theorem dX6_blockOrThrow_8 : decode cX6_blockOrThrow 8 = .ok (.if_icmp .lt 14, 3) := by decide +kernel
theorem dX6_blockOrThrow_11 : decode cX6_blockOrThrow 11 = .ok (.new 142, 3) := by decide +kernel
theorem dX6_blockOrThrow_14 : decode cX6_blockOrThrow 14 = .ok (.dup, 1) := by decide +kernel
theorem dX6_blockOrThrow_15 : decode cX6_blockOrThrow 15 = .ok (.ldc_w 277, 3) := by decide +kernel
theorem dX6_blockOrThrow_18 : decode cX6_blockOrThrow 18 = .ok (.invokespecial 146, 3) := by decide +kernel
theorem dX6_blockOrThrow_21 : decode cX6_blockOrThrow 21 = .ok (.athrow, 1) := by decide +kernel
theorem dX6_blockOrThrow_22 : decode cX6_blockOrThrow 22 = .ok (.return_, 1) := by decide +kernel
theorem dX6_regionOrThrow_0 : decode cX6_regionOrThrow 0 = .ok (.iload_n 0, 1) := by decide +kernel
theorem dX6_regionOrThrow_1 : decode cX6_regionOrThrow 1 = .ok (.ifCond .lt 8, 3) := by decide +kernel
theorem dX6_regionOrThrow_4 : decode cX6_regionOrThrow 4 = .ok (.iload_n 0, 1) := by decide +kernel
theorem dX6_regionOrThrow_5 : decode cX6_regionOrThrow 5 = .ok (.iconst 4, 1) := by decide +kernel
theorem dX6_regionOrThrow_6 : decode cX6_regionOrThrow 6 = .ok (.if_icmp .lt 14, 3) := by decide +kernel
theorem dX6_regionOrThrow_9 : decode cX6_regionOrThrow 9 = .ok (.new 142, 3) := by decide +kernel
theorem dX6_regionOrThrow_12 : decode cX6_regionOrThrow 12 = .ok (.dup, 1) := by decide +kernel
theorem dX6_regionOrThrow_13 : decode cX6_regionOrThrow 13 = .ok (.ldc_w 279, 3) := by decide +kernel
theorem dX6_regionOrThrow_16 : decode cX6_regionOrThrow 16 = .ok (.invokespecial 146, 3) := by decide +kernel
theorem dX6_regionOrThrow_19 : decode cX6_regionOrThrow 19 = .ok (.athrow, 1) := by decide +kernel
theorem dX6_regionOrThrow_20 : decode cX6_regionOrThrow 20 = .ok (.return_, 1) := by decide +kernel
theorem dX6_logOrThrow_0 : decode cX6_logOrThrow 0 = .ok (.iload_n 1, 1) := by decide +kernel
theorem dX6_logOrThrow_1 : decode cX6_logOrThrow 1 = .ok (.ifCond .lt 15, 3) := by decide +kernel
theorem dX6_logOrThrow_4 : decode cX6_logOrThrow 4 = .ok (.iload_n 1, 1) := by decide +kernel
theorem dX6_logOrThrow_5 : decode cX6_logOrThrow 5 = .ok (.aload_n 0, 1) := by decide +kernel
theorem dX6_logOrThrow_6 : decode cX6_logOrThrow 6 = .ok (.getfield 12, 3) := by decide +kernel
theorem dX6_logOrThrow_9 : decode cX6_logOrThrow 9 = .ok (.getfield 281, 3) := by decide +kernel
theorem dX6_logOrThrow_12 : decode cX6_logOrThrow 12 = .ok (.arraylength, 1) := by decide +kernel
theorem dX6_logOrThrow_13 : decode cX6_logOrThrow 13 = .ok (.if_icmp .lt 14, 3) := by decide +kernel
theorem dX6_logOrThrow_16 : decode cX6_logOrThrow 16 = .ok (.new 142, 3) := by decide +kernel
theorem dX6_logOrThrow_19 : decode cX6_logOrThrow 19 = .ok (.dup, 1) := by decide +kernel
theorem dX6_logOrThrow_20 : decode cX6_logOrThrow 20 = .ok (.ldc_w 279, 3) := by decide +kernel
theorem dX6_logOrThrow_23 : decode cX6_logOrThrow 23 = .ok (.invokespecial 146, 3) := by decide +kernel
theorem dX6_logOrThrow_26 : decode cX6_logOrThrow 26 = .ok (.athrow, 1) := by decide +kernel
theorem dX6_logOrThrow_27 : decode cX6_logOrThrow 27 = .ok (.aload_n 0, 1) := by decide +kernel
theorem dX6_logOrThrow_28 : decode cX6_logOrThrow 28 = .ok (.getfield 12, 3) := by decide +kernel
theorem dX6_logOrThrow_31 : decode cX6_logOrThrow 31 = .ok (.getfield 281, 3) := by decide +kernel
theorem dX6_logOrThrow_34 : decode cX6_logOrThrow 34 = .ok (.iload_n 1, 1) := by decide +kernel
theorem dX6_logOrThrow_35 : decode cX6_logOrThrow 35 = .ok (.aaload, 1) := by decide +kernel
theorem dX6_logOrThrow_36 : decode cX6_logOrThrow 36 = .ok (.areturn, 1) := by decide +kernel
theorem dX6_logWithEntryOrThrow_0 : decode cX6_logWithEntryOrThrow 0 = .ok (.aload_n 0, 1) := by decide +kernel
theorem dX6_logWithEntryOrThrow_1 : decode cX6_logWithEntryOrThrow 1 = .ok (.iload_n 1, 1) := by decide +kernel
theorem dX6_logWithEntryOrThrow_2 : decode cX6_logWithEntryOrThrow 2 = .ok (.invokevirtual 241, 3) := by decide +kernel
theorem dX6_logWithEntryOrThrow_5 : decode cX6_logWithEntryOrThrow 5 = .ok (.astore_n 3, 1) := by decide +kernel
theorem dX6_logWithEntryOrThrow_6 : decode cX6_logWithEntryOrThrow 6 = .ok (.iload_n 2, 1) := by decide +kernel
theorem dX6_logWithEntryOrThrow_7 : decode cX6_logWithEntryOrThrow 7 = .ok (.ifCond .lt 11, 3) := by decide +kernel
theorem dX6_logWithEntryOrThrow_10 : decode cX6_logWithEntryOrThrow 10 = .ok (.iload_n 2, 1) := by decide +kernel
theorem dX6_logWithEntryOrThrow_11 : decode cX6_logWithEntryOrThrow 11 = .ok (.aload_n 3, 1) := by decide +kernel
theorem dX6_logWithEntryOrThrow_12 : decode cX6_logWithEntryOrThrow 12 = .ok (.getfield 245, 3) := by decide +kernel
theorem dX6_logWithEntryOrThrow_15 : decode cX6_logWithEntryOrThrow 15 = .ok (.if_icmp .lt 14, 3) := by decide +kernel
theorem dX6_logWithEntryOrThrow_18 : decode cX6_logWithEntryOrThrow 18 = .ok (.new 142, 3) := by decide +kernel
theorem dX6_logWithEntryOrThrow_21 : decode cX6_logWithEntryOrThrow 21 = .ok (.dup, 1) := by decide +kernel
theorem dX6_logWithEntryOrThrow_22 : decode cX6_logWithEntryOrThrow 22 = .ok (.ldc_w 285, 3) := by decide +kernel
theorem dX6_logWithEntryOrThrow_25 : decode cX6_logWithEntryOrThrow 25 = .ok (.invokespecial 146, 3) := by decide +kernel
theorem dX6_logWithEntryOrThrow_28 : decode cX6_logWithEntryOrThrow 28 = .ok (.athrow, 1) := by decide +kernel
theorem dX6_logWithEntryOrThrow_29 : decode cX6_logWithEntryOrThrow 29 = .ok (.aload_n 3, 1) := by decide +kernel
theorem dX6_logWithEntryOrThrow_30 : decode cX6_logWithEntryOrThrow 30 = .ok (.areturn, 1) := by decide +kernel
theorem dX6_fits_0 : decode cX6_fits 0 = .ok (.iload_n 1, 1) := by decide +kernel
theorem dX6_fits_1 : decode cX6_fits 1 = .ok (.iconst 1, 1) := by decide +kernel
theorem dX6_fits_2 : decode cX6_fits 2 = .ok (.if_icmp .lt 15, 3) := by decide +kernel
theorem dX6_fits_5 : decode cX6_fits 5 = .ok (.iload_n 1, 1) := by decide +kernel
theorem dX6_fits_6 : decode cX6_fits 6 = .ok (.bipush 16, 2) := by decide +kernel
theorem dX6_fits_8 : decode cX6_fits 8 = .ok (.iload_n 0, 1) := by decide +kernel
theorem dX6_fits_9 : decode cX6_fits 9 = .ok (.isub, 1) := by decide +kernel
theorem dX6_fits_10 : decode cX6_fits 10 = .ok (.if_icmp .gt 7, 3) := by decide +kernel
theorem dX6_fits_13 : decode cX6_fits 13 = .ok (.iconst 1, 1) := by decide +kernel
theorem dX6_fits_14 : decode cX6_fits 14 = .ok (.goto 4, 3) := by decide +kernel
theorem dX6_fits_17 : decode cX6_fits 17 = .ok (.iconst 0, 1) := by decide +kernel
theorem dX6_fits_18 : decode cX6_fits 18 = .ok (.ireturn, 1) := by decide +kernel
theorem dX6_take_0 : decode cX6_take 0 = .ok (.iconst 0, 1) := by decide +kernel
theorem dX6_take_1 : decode cX6_take 1 = .ok (.istore 4, 2) := by decide +kernel
theorem dX6_take_3 : decode cX6_take 3 = .ok (.iload 4, 2) := by decide +kernel
theorem dX6_take_5 : decode cX6_take 5 = .ok (.iload_n 3, 1) := by decide +kernel
theorem dX6_take_6 : decode cX6_take 6 = .ok (.if_icmp .ge 34, 3) := by decide +kernel
theorem dX6_take_9 : decode cX6_take 9 = .ok (.iload 4, 2) := by decide +kernel
theorem dX6_take_11 : decode cX6_take 11 = .ok (.aload_n 0, 1) := by decide +kernel
theorem dX6_take_12 : decode cX6_take 12 = .ok (.getfield 19, 3) := by decide +kernel
theorem dX6_take_15 : decode cX6_take 15 = .ok (.arraylength, 1) := by decide +kernel
theorem dX6_take_16 : decode cX6_take 16 = .ok (.if_icmp .ge 24, 3) := by decide +kernel
theorem dX6_take_19 : decode cX6_take 19 = .ok (.aload_n 0, 1) := by decide +kernel
theorem dX6_take_20 : decode cX6_take 20 = .ok (.getfield 19, 3) := by decide +kernel
theorem dX6_take_23 : decode cX6_take 23 = .ok (.iload 4, 2) := by decide +kernel
theorem dX6_take_25 : decode cX6_take 25 = .ok (.aload_n 1, 1) := by decide +kernel
theorem dX6_take_26 : decode cX6_take 26 = .ok (.iload_n 2, 1) := by decide +kernel
theorem dX6_take_27 : decode cX6_take 27 = .ok (.iload 4, 2) := by decide +kernel
theorem dX6_take_29 : decode cX6_take 29 = .ok (.iadd, 1) := by decide +kernel
theorem dX6_take_30 : decode cX6_take 30 = .ok (.invokevirtual 40, 3) := by decide +kernel
theorem dX6_take_33 : decode cX6_take 33 = .ok (.iastore, 1) := by decide +kernel
theorem dX6_take_34 : decode cX6_take 34 = .ok (.iinc 4 1, 3) := by decide +kernel
theorem dX6_take_37 : decode cX6_take 37 = .ok (.goto (-34), 3) := by decide +kernel
theorem dX6_take_40 : decode cX6_take 40 = .ok (.return_, 1) := by decide +kernel
theorem dX6_closeTransaction_0 : decode cX6_closeTransaction 0 = .ok (.aload_n 0, 1) := by decide +kernel
theorem dX6_closeTransaction_1 : decode cX6_closeTransaction 1 = .ok (.getfield 12, 3) := by decide +kernel
theorem dX6_closeTransaction_4 : decode cX6_closeTransaction 4 = .ok (.getfield 50, 3) := by decide +kernel
theorem dX6_closeTransaction_7 : decode cX6_closeTransaction 7 = .ok (.istore_n 1, 1) := by decide +kernel
theorem dX6_closeTransaction_8 : decode cX6_closeTransaction 8 = .ok (.aload_n 0, 1) := by decide +kernel
theorem dX6_closeTransaction_9 : decode cX6_closeTransaction 9 = .ok (.getfield 12, 3) := by decide +kernel
theorem dX6_closeTransaction_12 : decode cX6_closeTransaction 12 = .ok (.getfield 46, 3) := by decide +kernel
theorem dX6_closeTransaction_15 : decode cX6_closeTransaction 15 = .ok (.invokevirtual 287, 3) := by decide +kernel
theorem dX6_closeTransaction_18 : decode cX6_closeTransaction 18 = .ok (.iconst 0, 1) := by decide +kernel
theorem dX6_closeTransaction_19 : decode cX6_closeTransaction 19 = .ok (.istore_n 2, 1) := by decide +kernel
theorem dX6_closeTransaction_20 : decode cX6_closeTransaction 20 = .ok (.iload_n 2, 1) := by decide +kernel
theorem dX6_closeTransaction_21 : decode cX6_closeTransaction 21 = .ok (.aload_n 0, 1) := by decide +kernel
theorem dX6_closeTransaction_22 : decode cX6_closeTransaction 22 = .ok (.getfield 12, 3) := by decide +kernel
theorem dX6_closeTransaction_25 : decode cX6_closeTransaction 25 = .ok (.getfield 281, 3) := by decide +kernel
theorem dX6_closeTransaction_28 : decode cX6_closeTransaction 28 = .ok (.arraylength, 1) := by decide +kernel
theorem dX6_closeTransaction_29 : decode cX6_closeTransaction 29 = .ok (.if_icmp .ge 51, 3) := by decide +kernel
theorem dX6_closeTransaction_32 : decode cX6_closeTransaction 32 = .ok (.aload_n 0, 1) := by decide +kernel
theorem dX6_closeTransaction_33 : decode cX6_closeTransaction 33 = .ok (.getfield 12, 3) := by decide +kernel
theorem dX6_closeTransaction_36 : decode cX6_closeTransaction 36 = .ok (.getfield 281, 3) := by decide +kernel
theorem dX6_closeTransaction_39 : decode cX6_closeTransaction 39 = .ok (.iload_n 2, 1) := by decide +kernel
theorem dX6_closeTransaction_40 : decode cX6_closeTransaction 40 = .ok (.aaload, 1) := by decide +kernel
theorem dX6_closeTransaction_41 : decode cX6_closeTransaction 41 = .ok (.aload_n 0, 1) := by decide +kernel
theorem dX6_closeTransaction_42 : decode cX6_closeTransaction 42 = .ok (.getfield 12, 3) := by decide +kernel
theorem dX6_closeTransaction_45 : decode cX6_closeTransaction 45 = .ok (.getfield 46, 3) := by decide +kernel
theorem dX6_closeTransaction_48 : decode cX6_closeTransaction 48 = .ok (.aload_n 0, 1) := by decide +kernel
theorem dX6_closeTransaction_49 : decode cX6_closeTransaction 49 = .ok (.getfield 16, 3) := by decide +kernel
theorem dX6_closeTransaction_52 : decode cX6_closeTransaction 52 = .ok (.getfield 46, 3) := by decide +kernel
theorem dX6_closeTransaction_55 : decode cX6_closeTransaction 55 = .ok (.invokevirtual 290, 3) := by decide +kernel
theorem dX6_closeTransaction_58 : decode cX6_closeTransaction 58 = .ok (.ifCond .eq 16, 3) := by decide +kernel
theorem dX6_closeTransaction_61 : decode cX6_closeTransaction 61 = .ok (.aload_n 0, 1) := by decide +kernel
theorem dX6_closeTransaction_62 : decode cX6_closeTransaction 62 = .ok (.getfield 12, 3) := by decide +kernel
theorem dX6_closeTransaction_65 : decode cX6_closeTransaction 65 = .ok (.dup, 1) := by decide +kernel
theorem dX6_closeTransaction_66 : decode cX6_closeTransaction 66 = .ok (.getfield 266, 3) := by decide +kernel
theorem dX6_closeTransaction_69 : decode cX6_closeTransaction 69 = .ok (.iconst 1, 1) := by decide +kernel
theorem dX6_closeTransaction_70 : decode cX6_closeTransaction 70 = .ok (.iadd, 1) := by decide +kernel
theorem dX6_closeTransaction_71 : decode cX6_closeTransaction 71 = .ok (.putfield 266, 3) := by decide +kernel
theorem dX6_closeTransaction_74 : decode cX6_closeTransaction 74 = .ok (.iinc 2 1, 3) := by decide +kernel
theorem dX6_closeTransaction_77 : decode cX6_closeTransaction 77 = .ok (.goto (-57), 3) := by decide +kernel
theorem dX6_closeTransaction_80 : decode cX6_closeTransaction 80 = .ok (.aload_n 0, 1) := by decide +kernel
theorem dX6_closeTransaction_81 : decode cX6_closeTransaction 81 = .ok (.getfield 12, 3) := by decide +kernel
theorem dX6_closeTransaction_84 : decode cX6_closeTransaction 84 = .ok (.iload_n 1, 1) := by decide +kernel
theorem dX6_closeTransaction_85 : decode cX6_closeTransaction 85 = .ok (.iconst 1, 1) := by decide +kernel
theorem dX6_closeTransaction_86 : decode cX6_closeTransaction 86 = .ok (.iadd, 1) := by decide +kernel
theorem dX6_closeTransaction_87 : decode cX6_closeTransaction 87 = .ok (.putfield 50, 3) := by decide +kernel
theorem dX6_closeTransaction_90 : decode cX6_closeTransaction 90 = .ok (.aload_n 0, 1) := by decide +kernel
theorem dX6_closeTransaction_91 : decode cX6_closeTransaction 91 = .ok (.getfield 16, 3) := by decide +kernel
theorem dX6_closeTransaction_94 : decode cX6_closeTransaction 94 = .ok (.aload_n 0, 1) := by decide +kernel
theorem dX6_closeTransaction_95 : decode cX6_closeTransaction 95 = .ok (.getfield 12, 3) := by decide +kernel
theorem dX6_closeTransaction_98 : decode cX6_closeTransaction 98 = .ok (.invokevirtual 108, 3) := by decide +kernel
theorem dX6_closeTransaction_101 : decode cX6_closeTransaction 101 = .ok (.iload_n 1, 1) := by decide +kernel
theorem dX6_closeTransaction_102 : decode cX6_closeTransaction 102 = .ok (.ireturn, 1) := by decide +kernel
theorem dX6_countUses_0 : decode cX6_countUses 0 = .ok (.aload_n 0, 1) := by decide +kernel
theorem dX6_countUses_1 : decode cX6_countUses 1 = .ok (.getfield 23, 3) := by decide +kernel
theorem dX6_countUses_4 : decode cX6_countUses 4 = .ok (.iconst 0, 1) := by decide +kernel
theorem dX6_countUses_5 : decode cX6_countUses 5 = .ok (.invokestatic 294, 3) := by decide +kernel
theorem dX6_countUses_8 : decode cX6_countUses 8 = .ok (.iconst 0, 1) := by decide +kernel
theorem dX6_countUses_9 : decode cX6_countUses 9 = .ok (.istore_n 2, 1) := by decide +kernel
theorem dX6_countUses_10 : decode cX6_countUses 10 = .ok (.iload_n 2, 1) := by decide +kernel
theorem dX6_countUses_11 : decode cX6_countUses 11 = .ok (.sipush 128, 3) := by decide +kernel
theorem dX6_countUses_14 : decode cX6_countUses 14 = .ok (.if_icmp .ge 38, 3) := by decide +kernel
theorem dX6_countUses_17 : decode cX6_countUses 17 = .ok (.aload_n 1, 1) := by decide +kernel
theorem dX6_countUses_18 : decode cX6_countUses 18 = .ok (.iload_n 2, 1) := by decide +kernel
theorem dX6_countUses_19 : decode cX6_countUses 19 = .ok (.invokevirtual 40, 3) := by decide +kernel
theorem dX6_countUses_22 : decode cX6_countUses 22 = .ok (.istore_n 3, 1) := by decide +kernel
theorem dX6_countUses_23 : decode cX6_countUses 23 = .ok (.iload_n 3, 1) := by decide +kernel
theorem dX6_countUses_24 : decode cX6_countUses 24 = .ok (.ifCond .lt 22, 3) := by decide +kernel
theorem dX6_countUses_27 : decode cX6_countUses 27 = .ok (.iload_n 3, 1) := by decide +kernel
theorem dX6_countUses_28 : decode cX6_countUses 28 = .ok (.aload_n 0, 1) := by decide +kernel
theorem dX6_countUses_29 : decode cX6_countUses 29 = .ok (.getfield 23, 3) := by decide +kernel
theorem dX6_countUses_32 : decode cX6_countUses 32 = .ok (.arraylength, 1) := by decide +kernel
theorem dX6_countUses_33 : decode cX6_countUses 33 = .ok (.if_icmp .ge 13, 3) := by decide +kernel
theorem dX6_countUses_36 : decode cX6_countUses 36 = .ok (.aload_n 0, 1) := by decide +kernel
theorem dX6_countUses_37 : decode cX6_countUses 37 = .ok (.getfield 23, 3) := by decide +kernel
theorem dX6_countUses_40 : decode cX6_countUses 40 = .ok (.iload_n 3, 1) := by decide +kernel
theorem dX6_countUses_41 : decode cX6_countUses 41 = .ok (.dup2, 1) := by decide +kernel
theorem dX6_countUses_42 : decode cX6_countUses 42 = .ok (.iaload, 1) := by decide +kernel
theorem dX6_countUses_43 : decode cX6_countUses 43 = .ok (.iconst 1, 1) := by decide +kernel
theorem dX6_countUses_44 : decode cX6_countUses 44 = .ok (.iadd, 1) := by decide +kernel
theorem dX6_countUses_45 : decode cX6_countUses 45 = .ok (.iastore, 1) := by decide +kernel
theorem dX6_countUses_46 : decode cX6_countUses 46 = .ok (.iinc 2 1, 3) := by decide +kernel
theorem dX6_countUses_49 : decode cX6_countUses 49 = .ok (.goto (-39), 3) := by decide +kernel
theorem dX6_countUses_52 : decode cX6_countUses 52 = .ok (.return_, 1) := by decide +kernel
theorem dX6_countOwn_0 : decode cX6_countOwn 0 = .ok (.aload_n 0, 1) := by decide +kernel
theorem dX6_countOwn_1 : decode cX6_countOwn 1 = .ok (.aload_n 1, 1) := by decide +kernel
theorem dX6_countOwn_2 : decode cX6_countOwn 2 = .ok (.invokevirtual 212, 3) := by decide +kernel
theorem dX6_countOwn_5 : decode cX6_countOwn 5 = .ok (.iconst 0, 1) := by decide +kernel
theorem dX6_countOwn_6 : decode cX6_countOwn 6 = .ok (.istore_n 2, 1) := by decide +kernel
theorem dX6_countOwn_7 : decode cX6_countOwn 7 = .ok (.iconst 0, 1) := by decide +kernel
theorem dX6_countOwn_8 : decode cX6_countOwn 8 = .ok (.istore_n 3, 1) := by decide +kernel
theorem dX6_countOwn_9 : decode cX6_countOwn 9 = .ok (.iload_n 3, 1) := by decide +kernel
theorem dX6_countOwn_10 : decode cX6_countOwn 10 = .ok (.aload_n 0, 1) := by decide +kernel
theorem dX6_countOwn_11 : decode cX6_countOwn 11 = .ok (.getfield 23, 3) := by decide +kernel
theorem dX6_countOwn_14 : decode cX6_countOwn 14 = .ok (.arraylength, 1) := by decide +kernel
theorem dX6_countOwn_15 : decode cX6_countOwn 15 = .ok (.if_icmp .ge 41, 3) := by decide +kernel
theorem dX6_countOwn_18 : decode cX6_countOwn 18 = .ok (.aload_n 0, 1) := by decide +kernel
theorem dX6_countOwn_19 : decode cX6_countOwn 19 = .ok (.getfield 23, 3) := by decide +kernel
theorem dX6_countOwn_22 : decode cX6_countOwn 22 = .ok (.iload_n 3, 1) := by decide +kernel
theorem dX6_countOwn_23 : decode cX6_countOwn 23 = .ok (.iaload, 1) := by decide +kernel
theorem dX6_countOwn_24 : decode cX6_countOwn 24 = .ok (.ifCond .le 26, 3) := by decide +kernel
theorem dX6_countOwn_27 : decode cX6_countOwn 27 = .ok (.aload_n 0, 1) := by decide +kernel
theorem dX6_countOwn_28 : decode cX6_countOwn 28 = .ok (.getfield 23, 3) := by decide +kernel
theorem dX6_countOwn_31 : decode cX6_countOwn 31 = .ok (.iload_n 3, 1) := by decide +kernel
theorem dX6_countOwn_32 : decode cX6_countOwn 32 = .ok (.iaload, 1) := by decide +kernel
theorem dX6_countOwn_33 : decode cX6_countOwn 33 = .ok (.aload_n 0, 1) := by decide +kernel
theorem dX6_countOwn_34 : decode cX6_countOwn 34 = .ok (.getfield 12, 3) := by decide +kernel
theorem dX6_countOwn_37 : decode cX6_countOwn 37 = .ok (.getfield 46, 3) := by decide +kernel
theorem dX6_countOwn_40 : decode cX6_countOwn 40 = .ok (.iload_n 3, 1) := by decide +kernel
theorem dX6_countOwn_41 : decode cX6_countOwn 41 = .ok (.invokevirtual 60, 3) := by decide +kernel
theorem dX6_countOwn_44 : decode cX6_countOwn 44 = .ok (.if_icmp .ne 6, 3) := by decide +kernel
theorem dX6_countOwn_47 : decode cX6_countOwn 47 = .ok (.iinc 2 1, 3) := by decide +kernel
theorem dX6_countOwn_50 : decode cX6_countOwn 50 = .ok (.iinc 3 1, 3) := by decide +kernel
theorem dX6_countOwn_53 : decode cX6_countOwn 53 = .ok (.goto (-44), 3) := by decide +kernel
theorem dX6_countOwn_56 : decode cX6_countOwn 56 = .ok (.iload_n 2, 1) := by decide +kernel
theorem dX6_countOwn_57 : decode cX6_countOwn 57 = .ok (.ireturn, 1) := by decide +kernel
theorem dX7_init_0 : decode cX7_init 0 = .ok (.aload_n 0, 1) := by decide +kernel
theorem dX7_init_1 : decode cX7_init 1 = .ok (.invokespecial 1, 3) := by decide +kernel
theorem dX7_init_4 : decode cX7_init 4 = .ok (.aload_n 0, 1) := by decide +kernel
theorem dX7_init_5 : decode cX7_init 5 = .ok (.sipush 3397, 3) := by decide +kernel
theorem dX7_init_8 : decode cX7_init 8 = .ok (.newarray .int, 2) := by decide +kernel
theorem dX7_init_10 : decode cX7_init 10 = .ok (.putfield 7, 3) := by decide +kernel
theorem dX7_init_13 : decode cX7_init 13 = .ok (.aload_n 0, 1) := by decide +kernel
theorem dX7_init_14 : decode cX7_init 14 = .ok (.sipush 3397, 3) := by decide +kernel
theorem dX7_init_17 : decode cX7_init 17 = .ok (.newarray .int, 2) := by decide +kernel
theorem dX7_init_19 : decode cX7_init 19 = .ok (.putfield 13, 3) := by decide +kernel
theorem dX7_init_22 : decode cX7_init 22 = .ok (.aload_n 0, 1) := by decide +kernel
theorem dX7_init_23 : decode cX7_init 23 = .ok (.sipush 128, 3) := by decide +kernel
theorem dX7_init_26 : decode cX7_init 26 = .ok (.newarray .int, 2) := by decide +kernel
theorem dX7_init_28 : decode cX7_init 28 = .ok (.putfield 16, 3) := by decide +kernel
theorem dX7_init_31 : decode cX7_init 31 = .ok (.aload_n 0, 1) := by decide +kernel
theorem dX7_init_32 : decode cX7_init 32 = .ok (.bipush 16, 2) := by decide +kernel
theorem dX7_init_34 : decode cX7_init 34 = .ok (.newarray .int, 2) := by decide +kernel
theorem dX7_init_36 : decode cX7_init 36 = .ok (.putfield 19, 3) := by decide +kernel
theorem dX7_init_39 : decode cX7_init 39 = .ok (.aload_n 0, 1) := by decide +kernel
theorem dX7_init_40 : decode cX7_init 40 = .ok (.getfield 7, 3) := by decide +kernel
theorem dX7_init_43 : decode cX7_init 43 = .ok (.sipush 2304, 3) := by decide +kernel
theorem dX7_init_46 : decode cX7_init 46 = .ok (.iconst 1, 1) := by decide +kernel
theorem dX7_init_47 : decode cX7_init 47 = .ok (.iastore, 1) := by decide +kernel
theorem dX7_init_48 : decode cX7_init 48 = .ok (.aload_n 0, 1) := by decide +kernel
theorem dX7_init_49 : decode cX7_init 49 = .ok (.getfield 7, 3) := by decide +kernel
theorem dX7_init_52 : decode cX7_init 52 = .ok (.sipush 3395, 3) := by decide +kernel
theorem dX7_init_55 : decode cX7_init 55 = .ok (.iconst 1, 1) := by decide +kernel
theorem dX7_init_56 : decode cX7_init 56 = .ok (.iastore, 1) := by decide +kernel
theorem dX7_init_57 : decode cX7_init 57 = .ok (.iconst 0, 1) := by decide +kernel
theorem dX7_init_58 : decode cX7_init 58 = .ok (.istore_n 1, 1) := by decide +kernel
theorem dX7_init_59 : decode cX7_init 59 = .ok (.iload_n 1, 1) := by decide +kernel
theorem dX7_init_60 : decode cX7_init 60 = .ok (.sipush 3397, 3) := by decide +kernel
theorem dX7_init_63 : decode cX7_init 63 = .ok (.if_icmp .ge 21, 3) := by decide +kernel
theorem dX7_init_66 : decode cX7_init 66 = .ok (.aload_n 0, 1) := by decide +kernel
theorem dX7_init_67 : decode cX7_init 67 = .ok (.getfield 13, 3) := by decide +kernel
theorem dX7_init_70 : decode cX7_init 70 = .ok (.iload_n 1, 1) := by decide +kernel
theorem dX7_init_71 : decode cX7_init 71 = .ok (.aload_n 0, 1) := by decide +kernel
theorem dX7_init_72 : decode cX7_init 72 = .ok (.getfield 7, 3) := by decide +kernel
theorem dX7_init_75 : decode cX7_init 75 = .ok (.iload_n 1, 1) := by decide +kernel
theorem dX7_init_76 : decode cX7_init 76 = .ok (.iaload, 1) := by decide +kernel
theorem dX7_init_77 : decode cX7_init 77 = .ok (.iastore, 1) := by decide +kernel
theorem dX7_init_78 : decode cX7_init 78 = .ok (.iinc 1 1, 3) := by decide +kernel
theorem dX7_init_81 : decode cX7_init 81 = .ok (.goto (-22), 3) := by decide +kernel
theorem dX7_init_84 : decode cX7_init 84 = .ok (.return_, 1) := by decide +kernel
theorem dX7_thrown_0 : decode cX7_thrown 0 = .ok (.aload_n 0, 1) := by decide +kernel
theorem dX7_thrown_1 : decode cX7_thrown 1 = .ok (.getfield 22, 3) := by decide +kernel
theorem dX7_thrown_4 : decode cX7_thrown 4 = .ok (.ireturn, 1) := by decide +kernel
theorem dX7_in_0 : decode cX7_in 0 = .ok (.iload_n 0, 1) := by decide +kernel
theorem dX7_in_1 : decode cX7_in 1 = .ok (.iload_n 1, 1) := by decide +kernel
theorem dX7_in_2 : decode cX7_in 2 = .ok (.if_icmp .lt 12, 3) := by decide +kernel
theorem dX7_in_5 : decode cX7_in 5 = .ok (.iload_n 0, 1) := by decide +kernel
theorem dX7_in_6 : decode cX7_in 6 = .ok (.iload_n 2, 1) := by decide +kernel
theorem dX7_in_7 : decode cX7_in 7 = .ok (.if_icmp .gt 7, 3) := by decide +kernel
theorem dX7_in_10 : decode cX7_in 10 = .ok (.iconst 1, 1) := by decide +kernel
theorem dX7_in_11 : decode cX7_in 11 = .ok (.goto 4, 3) := by decide +kernel
theorem dX7_in_14 : decode cX7_in 14 = .ok (.iconst 0, 1) := by decide +kernel
theorem dX7_in_15 : decode cX7_in 15 = .ok (.ireturn, 1) := by decide +kernel
theorem dX7_isSet_0 : decode cX7_isSet 0 = .ok (.iload_n 1, 1) := by decide +kernel
theorem dX7_isSet_1 : decode cX7_isSet 1 = .ok (.iconst 0, 1) := by decide +kernel
theorem dX7_isSet_2 : decode cX7_isSet 2 = .ok (.iconst 5, 1) := by decide +kernel
theorem dX7_isSet_3 : decode cX7_isSet 3 = .ok (.invokestatic 26, 3) := by decide +kernel
theorem dX7_isSet_6 : decode cX7_isSet 6 = .ok (.ifCond .eq 21, 3) := by decide +kernel
theorem dX7_isSet_9 : decode cX7_isSet 9 = .ok (.aload_n 0, 1) := by decide +kernel
theorem dX7_isSet_10 : decode cX7_isSet 10 = .ok (.getfield 7, 3) := by decide +kernel
theorem dX7_isSet_13 : decode cX7_isSet 13 = .ok (.sipush 2304, 3) := by decide +kernel
theorem dX7_isSet_16 : decode cX7_isSet 16 = .ok (.iload_n 1, 1) := by decide +kernel
theorem dX7_isSet_17 : decode cX7_isSet 17 = .ok (.iadd, 1) := by decide +kernel
theorem dX7_isSet_18 : decode cX7_isSet 18 = .ok (.iaload, 1) := by decide +kernel
theorem dX7_isSet_19 : decode cX7_isSet 19 = .ok (.iconst 1, 1) := by decide +kernel
theorem dX7_isSet_20 : decode cX7_isSet 20 = .ok (.if_icmp .ne 7, 3) := by decide +kernel
theorem dX7_isSet_23 : decode cX7_isSet 23 = .ok (.iconst 1, 1) := by decide +kernel
theorem dX7_isSet_24 : decode cX7_isSet 24 = .ok (.goto 4, 3) := by decide +kernel
theorem dX7_isSet_27 : decode cX7_isSet 27 = .ok (.iconst 0, 1) := by decide +kernel
theorem dX7_isSet_28 : decode cX7_isSet 28 = .ok (.ireturn, 1) := by decide +kernel
theorem dX7_isFile_0 : decode cX7_isFile 0 = .ok (.iload_n 0, 1) := by decide +kernel
theorem dX7_isFile_1 : decode cX7_isFile 1 = .ok (.iconst 0, 1) := by decide +kernel
theorem dX7_isFile_2 : decode cX7_isFile 2 = .ok (.bipush 7, 2) := by decide +kernel
theorem dX7_isFile_4 : decode cX7_isFile 4 = .ok (.invokestatic 26, 3) := by decide +kernel
theorem dX7_isFile_7 : decode cX7_isFile 7 = .ok (.ireturn, 1) := by decide +kernel
theorem dX7_isSpot_0 : decode cX7_isSpot 0 = .ok (.iload_n 0, 1) := by decide +kernel
theorem dX7_isSpot_1 : decode cX7_isSpot 1 = .ok (.invokestatic 30, 3) := by decide +kernel
theorem dX7_isSpot_4 : decode cX7_isSpot 4 = .ok (.ifCond .eq 17, 3) := by decide +kernel
theorem dX7_isSpot_7 : decode cX7_isSpot 7 = .ok (.iload_n 1, 1) := by decide +kernel
theorem dX7_isSpot_8 : decode cX7_isSpot 8 = .ok (.iconst 0, 1) := by decide +kernel
theorem dX7_isSpot_9 : decode cX7_isSpot 9 = .ok (.bipush 15, 2) := by decide +kernel
theorem dX7_isSpot_11 : decode cX7_isSpot 11 = .ok (.invokestatic 26, 3) := by decide +kernel
theorem dX7_isSpot_14 : decode cX7_isSpot 14 = .ok (.ifCond .eq 7, 3) := by decide +kernel
theorem dX7_isSpot_17 : decode cX7_isSpot 17 = .ok (.iconst 1, 1) := by decide +kernel
theorem dX7_isSpot_18 : decode cX7_isSpot 18 = .ok (.goto 4, 3) := by decide +kernel
theorem dX7_isSpot_21 : decode cX7_isSpot 21 = .ok (.iconst 0, 1) := by decide +kernel
theorem dX7_isSpot_22 : decode cX7_isSpot 22 = .ok (.ireturn, 1) := by decide +kernel
theorem dX7_slotOf_0 : decode cX7_slotOf 0 = .ok (.iconst (-1), 1) := by decide +kernel
theorem dX7_slotOf_1 : decode cX7_slotOf 1 = .ok (.istore_n 2, 1) := by decide +kernel
theorem dX7_slotOf_2 : decode cX7_slotOf 2 = .ok (.iconst 0, 1) := by decide +kernel
theorem dX7_slotOf_3 : decode cX7_slotOf 3 = .ok (.istore_n 3, 1) := by decide +kernel
theorem dX7_slotOf_4 : decode cX7_slotOf 4 = .ok (.iload_n 3, 1) := by decide +kernel
theorem dX7_slotOf_5 : decode cX7_slotOf 5 = .ok (.bipush 12, 2) := by decide +kernel
theorem dX7_slotOf_7 : decode cX7_slotOf 7 = .ok (.if_icmp .ge 35, 3) := by decide +kernel
theorem dX7_slotOf_10 : decode cX7_slotOf 10 = .ok (.iload_n 1, 1) := by decide +kernel
theorem dX7_slotOf_11 : decode cX7_slotOf 11 = .ok (.ifCond .lt 23, 3) := by decide +kernel
theorem dX7_slotOf_14 : decode cX7_slotOf 14 = .ok (.aload_n 0, 1) := by decide +kernel
theorem dX7_slotOf_15 : decode cX7_slotOf 15 = .ok (.getfield 7, 3) := by decide +kernel
theorem dX7_slotOf_18 : decode cX7_slotOf 18 = .ok (.sipush 2394, 3) := by decide +kernel
theorem dX7_slotOf_21 : decode cX7_slotOf 21 = .ok (.iload_n 3, 1) := by decide +kernel
theorem dX7_slotOf_22 : decode cX7_slotOf 22 = .ok (.iadd, 1) := by decide +kernel
theorem dX7_slotOf_23 : decode cX7_slotOf 23 = .ok (.iaload, 1) := by decide +kernel
theorem dX7_slotOf_24 : decode cX7_slotOf 24 = .ok (.iload_n 1, 1) := by decide +kernel
theorem dX7_slotOf_25 : decode cX7_slotOf 25 = .ok (.iconst 1, 1) := by decide +kernel
theorem dX7_slotOf_26 : decode cX7_slotOf 26 = .ok (.iadd, 1) := by decide +kernel
theorem dX7_slotOf_27 : decode cX7_slotOf 27 = .ok (.if_icmp .ne 7, 3) := by decide +kernel
theorem dX7_slotOf_30 : decode cX7_slotOf 30 = .ok (.iload_n 3, 1) := by decide +kernel
theorem dX7_slotOf_31 : decode cX7_slotOf 31 = .ok (.goto 4, 3) := by decide +kernel
theorem dX7_slotOf_34 : decode cX7_slotOf 34 = .ok (.iload_n 2, 1) := by decide +kernel
theorem dX7_slotOf_35 : decode cX7_slotOf 35 = .ok (.istore_n 2, 1) := by decide +kernel
theorem dX7_slotOf_36 : decode cX7_slotOf 36 = .ok (.iinc 3 1, 3) := by decide +kernel
theorem dX7_slotOf_39 : decode cX7_slotOf 39 = .ok (.goto (-35), 3) := by decide +kernel
theorem dX7_slotOf_42 : decode cX7_slotOf 42 = .ok (.iload_n 2, 1) := by decide +kernel
theorem dX7_slotOf_43 : decode cX7_slotOf 43 = .ok (.ireturn, 1) := by decide +kernel
theorem dX7_spot_0 : decode cX7_spot 0 = .ok (.iconst 0, 1) := by decide +kernel
theorem dX7_spot_1 : decode cX7_spot 1 = .ok (.sipush 128, 3) := by decide +kernel
theorem dX7_spot_4 : decode cX7_spot 4 = .ok (.iload_n 0, 1) := by decide +kernel
theorem dX7_spot_5 : decode cX7_spot 5 = .ok (.imul, 1) := by decide +kernel
theorem dX7_spot_6 : decode cX7_spot 6 = .ok (.iadd, 1) := by decide +kernel
theorem dX7_spot_7 : decode cX7_spot 7 = .ok (.bipush 16, 2) := by decide +kernel
theorem dX7_spot_9 : decode cX7_spot 9 = .ok (.iload_n 1, 1) := by decide +kernel
theorem dX7_spot_10 : decode cX7_spot 10 = .ok (.imul, 1) := by decide +kernel
theorem dX7_spot_11 : decode cX7_spot 11 = .ok (.iadd, 1) := by decide +kernel
theorem dX7_spot_12 : decode cX7_spot 12 = .ok (.iload_n 2, 1) := by decide +kernel
theorem dX7_spot_13 : decode cX7_spot 13 = .ok (.iadd, 1) := by decide +kernel
theorem dX7_spot_14 : decode cX7_spot 14 = .ok (.ireturn, 1) := by decide +kernel
theorem dX7_fits_0 : decode cX7_fits 0 = .ok (.aload_n 0, 1) := by decide +kernel
theorem dX7_fits_1 : decode cX7_fits 1 = .ok (.iload_n 1, 1) := by decide +kernel
theorem dX7_fits_2 : decode cX7_fits 2 = .ok (.ifCond .ne 7, 3) := by decide +kernel
theorem dX7_fits_5 : decode cX7_fits 5 = .ok (.iconst 1, 1) := by decide +kernel
theorem dX7_fits_6 : decode cX7_fits 6 = .ok (.goto 12, 3) := by decide +kernel
theorem dX7_fits_9 : decode cX7_fits 9 = .ok (.iload_n 2, 1) := by decide +kernel
theorem dX7_fits_10 : decode cX7_fits 10 = .ok (.ifCond .eq 7, 3) := by decide +kernel
theorem dX7_fits_13 : decode cX7_fits 13 = .ok (.iconst 0, 1) := by decide +kernel
theorem dX7_fits_14 : decode cX7_fits 14 = .ok (.goto 4, 3) := by decide +kernel
theorem dX7_fits_17 : decode cX7_fits 17 = .ok (.iconst 2, 1) := by decide +kernel
theorem dX7_fits_18 : decode cX7_fits 18 = .ok (.putfield 22, 3) := by decide +kernel
theorem dX7_fits_21 : decode cX7_fits 21 = .ok (.aload_n 0, 1) := by decide +kernel
theorem dX7_fits_22 : decode cX7_fits 22 = .ok (.getfield 22, 3) := by decide +kernel
theorem dX7_fits_25 : decode cX7_fits 25 = .ok (.ifCond .ne 7, 3) := by decide +kernel
theorem dX7_fits_28 : decode cX7_fits 28 = .ok (.iconst 1, 1) := by decide +kernel
theorem dX7_fits_29 : decode cX7_fits 29 = .ok (.goto 4, 3) := by decide +kernel
theorem dX7_fits_32 : decode cX7_fits 32 = .ok (.iconst 0, 1) := by decide +kernel
theorem dX7_fits_33 : decode cX7_fits 33 = .ok (.ireturn, 1) := by decide +kernel
theorem dX7_counts_0 : decode cX7_counts 0 = .ok (.iconst 0, 1) := by decide +kernel
theorem dX7_counts_1 : decode cX7_counts 1 = .ok (.istore_n 1, 1) := by decide +kernel
theorem dX7_counts_2 : decode cX7_counts 2 = .ok (.iload_n 1, 1) := by decide +kernel
theorem dX7_counts_3 : decode cX7_counts 3 = .ok (.sipush 128, 3) := by decide +kernel
theorem dX7_counts_6 : decode cX7_counts 6 = .ok (.if_icmp .ge 16, 3) := by decide +kernel
theorem dX7_counts_9 : decode cX7_counts 9 = .ok (.aload_n 0, 1) := by decide +kernel
theorem dX7_counts_10 : decode cX7_counts 10 = .ok (.getfield 16, 3) := by decide +kernel
theorem dX7_counts_13 : decode cX7_counts 13 = .ok (.iload_n 1, 1) := by decide +kernel
theorem dX7_counts_14 : decode cX7_counts 14 = .ok (.iconst 0, 1) := by decide +kernel
theorem dX7_counts_15 : decode cX7_counts 15 = .ok (.iastore, 1) := by decide +kernel
theorem dX7_counts_16 : decode cX7_counts 16 = .ok (.iinc 1 1, 3) := by decide +kernel
theorem dX7_counts_19 : decode cX7_counts 19 = .ok (.goto (-17), 3) := by decide +kernel
theorem dX7_counts_22 : decode cX7_counts 22 = .ok (.iconst 0, 1) := by decide +kernel
theorem dX7_counts_23 : decode cX7_counts 23 = .ok (.istore_n 1, 1) := by decide +kernel
theorem dX7_counts_24 : decode cX7_counts 24 = .ok (.iload_n 1, 1) := by decide +kernel
theorem dX7_counts_25 : decode cX7_counts 25 = .ok (.sipush 2304, 3) := by decide +kernel
theorem dX7_counts_28 : decode cX7_counts 28 = .ok (.if_icmp .ge 35, 3) := by decide +kernel
theorem dX7_counts_31 : decode cX7_counts 31 = .ok (.aload_n 0, 1) := by decide +kernel
theorem dX7_counts_32 : decode cX7_counts 32 = .ok (.getfield 7, 3) := by decide +kernel
theorem dX7_counts_35 : decode cX7_counts 35 = .ok (.iload_n 1, 1) := by decide +kernel
theorem dX7_counts_36 : decode cX7_counts 36 = .ok (.iaload, 1) := by decide +kernel
theorem dX7_counts_37 : decode cX7_counts 37 = .ok (.ifCond .le 20, 3) := by decide +kernel
theorem dX7_counts_40 : decode cX7_counts 40 = .ok (.aload_n 0, 1) := by decide +kernel
theorem dX7_counts_41 : decode cX7_counts 41 = .ok (.getfield 16, 3) := by decide +kernel
theorem dX7_counts_44 : decode cX7_counts 44 = .ok (.aload_n 0, 1) := by decide +kernel
theorem dX7_counts_45 : decode cX7_counts 45 = .ok (.getfield 7, 3) := by decide +kernel
theorem dX7_counts_48 : decode cX7_counts 48 = .ok (.iload_n 1, 1) := by decide +kernel
theorem dX7_counts_49 : decode cX7_counts 49 = .ok (.iaload, 1) := by decide +kernel
theorem dX7_counts_50 : decode cX7_counts 50 = .ok (.iconst 1, 1) := by decide +kernel
theorem dX7_counts_51 : decode cX7_counts 51 = .ok (.isub, 1) := by decide +kernel
theorem dX7_counts_52 : decode cX7_counts 52 = .ok (.dup2, 1) := by decide +kernel
theorem dX7_counts_53 : decode cX7_counts 53 = .ok (.iaload, 1) := by decide +kernel
theorem dX7_counts_54 : decode cX7_counts 54 = .ok (.iconst 1, 1) := by decide +kernel
theorem dX7_counts_55 : decode cX7_counts 55 = .ok (.iadd, 1) := by decide +kernel
theorem dX7_counts_56 : decode cX7_counts 56 = .ok (.iastore, 1) := by decide +kernel
theorem dX7_counts_57 : decode cX7_counts 57 = .ok (.iinc 1 1, 3) := by decide +kernel
theorem dX7_counts_60 : decode cX7_counts 60 = .ok (.goto (-36), 3) := by decide +kernel
theorem dX7_counts_63 : decode cX7_counts 63 = .ok (.iconst 0, 1) := by decide +kernel
theorem dX7_counts_64 : decode cX7_counts 64 = .ok (.istore_n 1, 1) := by decide +kernel
theorem dX7_counts_65 : decode cX7_counts 65 = .ok (.iconst 0, 1) := by decide +kernel
theorem dX7_counts_66 : decode cX7_counts 66 = .ok (.istore_n 2, 1) := by decide +kernel
theorem dX7_counts_67 : decode cX7_counts 67 = .ok (.iload_n 2, 1) := by decide +kernel
theorem dX7_counts_68 : decode cX7_counts 68 = .ok (.sipush 128, 3) := by decide +kernel
theorem dX7_counts_71 : decode cX7_counts 71 = .ok (.if_icmp .ge 86, 3) := by decide +kernel
theorem dX7_counts_74 : decode cX7_counts 74 = .ok (.aload_n 0, 1) := by decide +kernel
theorem dX7_counts_75 : decode cX7_counts 75 = .ok (.getfield 16, 3) := by decide +kernel
theorem dX7_counts_78 : decode cX7_counts 78 = .ok (.iload_n 2, 1) := by decide +kernel
theorem dX7_counts_79 : decode cX7_counts 79 = .ok (.iaload, 1) := by decide +kernel
theorem dX7_counts_80 : decode cX7_counts 80 = .ok (.ifCond .ne 55, 3) := by decide +kernel
theorem dX7_counts_83 : decode cX7_counts 83 = .ok (.aload_n 0, 1) := by decide +kernel
theorem dX7_counts_84 : decode cX7_counts 84 = .ok (.getfield 7, 3) := by decide +kernel
theorem dX7_counts_87 : decode cX7_counts 87 = .ok (.sipush 2814, 3) := by decide +kernel
theorem dX7_counts_90 : decode cX7_counts 90 = .ok (.iload_n 2, 1) := by decide +kernel
theorem dX7_counts_91 : decode cX7_counts 91 = .ok (.iadd, 1) := by decide +kernel
theorem dX7_counts_92 : decode cX7_counts 92 = .ok (.iaload, 1) := by decide +kernel
theorem dX7_counts_93 : decode cX7_counts 93 = .ok (.ifCond .le 42, 3) := by decide +kernel
theorem dX7_counts_96 : decode cX7_counts 96 = .ok (.iinc 1 1, 3) := by decide +kernel
theorem dX7_counts_99 : decode cX7_counts 99 = .ok (.aload_n 0, 1) := by decide +kernel
theorem dX7_counts_100 : decode cX7_counts 100 = .ok (.getfield 7, 3) := by decide +kernel
theorem dX7_counts_103 : decode cX7_counts 103 = .ok (.sipush 2686, 3) := by decide +kernel
theorem dX7_counts_106 : decode cX7_counts 106 = .ok (.iload_n 2, 1) := by decide +kernel
theorem dX7_counts_107 : decode cX7_counts 107 = .ok (.iadd, 1) := by decide +kernel
theorem dX7_counts_108 : decode cX7_counts 108 = .ok (.aload_n 0, 1) := by decide +kernel
theorem dX7_counts_109 : decode cX7_counts 109 = .ok (.getfield 7, 3) := by decide +kernel
theorem dX7_counts_112 : decode cX7_counts 112 = .ok (.sipush 2558, 3) := by decide +kernel
theorem dX7_counts_115 : decode cX7_counts 115 = .ok (.iload_n 2, 1) := by decide +kernel
theorem dX7_counts_116 : decode cX7_counts 116 = .ok (.iadd, 1) := by decide +kernel
theorem dX7_counts_117 : decode cX7_counts 117 = .ok (.iaload, 1) := by decide +kernel
theorem dX7_counts_118 : decode cX7_counts 118 = .ok (.aload_n 0, 1) := by decide +kernel
theorem dX7_counts_119 : decode cX7_counts 119 = .ok (.getfield 7, 3) := by decide +kernel
theorem dX7_counts_122 : decode cX7_counts 122 = .ok (.sipush 3395, 3) := by decide +kernel
theorem dX7_counts_125 : decode cX7_counts 125 = .ok (.iaload, 1) := by decide +kernel
theorem dX7_counts_126 : decode cX7_counts 126 = .ok (.if_icmp .ne 7, 3) := by decide +kernel
theorem dX7_counts_129 : decode cX7_counts 129 = .ok (.iconst 0, 1) := by decide +kernel
theorem dX7_counts_130 : decode cX7_counts 130 = .ok (.goto 4, 3) := by decide +kernel
theorem dX7_counts_133 : decode cX7_counts 133 = .ok (.iconst 1, 1) := by decide +kernel
theorem dX7_counts_134 : decode cX7_counts 134 = .ok (.iastore, 1) := by decide +kernel
theorem dX7_counts_135 : decode cX7_counts 135 = .ok (.aload_n 0, 1) := by decide +kernel
theorem dX7_counts_136 : decode cX7_counts 136 = .ok (.getfield 7, 3) := by decide +kernel
theorem dX7_counts_139 : decode cX7_counts 139 = .ok (.sipush 2814, 3) := by decide +kernel
theorem dX7_counts_142 : decode cX7_counts 142 = .ok (.iload_n 2, 1) := by decide +kernel
theorem dX7_counts_143 : decode cX7_counts 143 = .ok (.iadd, 1) := by decide +kernel
theorem dX7_counts_144 : decode cX7_counts 144 = .ok (.aload_n 0, 1) := by decide +kernel
theorem dX7_counts_145 : decode cX7_counts 145 = .ok (.getfield 16, 3) := by decide +kernel
theorem dX7_counts_148 : decode cX7_counts 148 = .ok (.iload_n 2, 1) := by decide +kernel
theorem dX7_counts_149 : decode cX7_counts 149 = .ok (.iaload, 1) := by decide +kernel
theorem dX7_counts_150 : decode cX7_counts 150 = .ok (.iastore, 1) := by decide +kernel
theorem dX7_counts_151 : decode cX7_counts 151 = .ok (.iinc 2 1, 3) := by decide +kernel
theorem dX7_counts_154 : decode cX7_counts 154 = .ok (.goto (-87), 3) := by decide +kernel
theorem dX7_counts_157 : decode cX7_counts 157 = .ok (.iload_n 1, 1) := by decide +kernel
theorem dX7_counts_158 : decode cX7_counts 158 = .ok (.ireturn, 1) := by decide +kernel
theorem dX7_isFree_0 : decode cX7_isFree 0 = .ok (.aload_n 0, 1) := by decide +kernel
theorem dX7_isFree_1 : decode cX7_isFree 1 = .ok (.getfield 7, 3) := by decide +kernel
theorem dX7_isFree_4 : decode cX7_isFree 4 = .ok (.sipush 2814, 3) := by decide +kernel
theorem dX7_isFree_7 : decode cX7_isFree 7 = .ok (.iload_n 1, 1) := by decide +kernel
theorem dX7_isFree_8 : decode cX7_isFree 8 = .ok (.iadd, 1) := by decide +kernel
theorem dX7_isFree_9 : decode cX7_isFree 9 = .ok (.iaload, 1) := by decide +kernel
theorem dX7_isFree_10 : decode cX7_isFree 10 = .ok (.ifCond .ne 20, 3) := by decide +kernel
theorem dX7_isFree_13 : decode cX7_isFree 13 = .ok (.aload_n 0, 1) := by decide +kernel
theorem dX7_isFree_14 : decode cX7_isFree 14 = .ok (.getfield 7, 3) := by decide +kernel
theorem dX7_isFree_17 : decode cX7_isFree 17 = .ok (.sipush 2686, 3) := by decide +kernel
theorem dX7_isFree_20 : decode cX7_isFree 20 = .ok (.iload_n 1, 1) := by decide +kernel
theorem dX7_isFree_21 : decode cX7_isFree 21 = .ok (.iadd, 1) := by decide +kernel
theorem dX7_isFree_22 : decode cX7_isFree 22 = .ok (.iaload, 1) := by decide +kernel
theorem dX7_isFree_23 : decode cX7_isFree 23 = .ok (.ifCond .ne 7, 3) := by decide +kernel
theorem dX7_isFree_26 : decode cX7_isFree 26 = .ok (.iconst 1, 1) := by decide +kernel
theorem dX7_isFree_27 : decode cX7_isFree 27 = .ok (.goto 4, 3) := by decide +kernel
theorem dX7_isFree_30 : decode cX7_isFree 30 = .ok (.iconst 0, 1) := by decide +kernel
theorem dX7_isFree_31 : decode cX7_isFree 31 = .ok (.ireturn, 1) := by decide +kernel
theorem dX7_countFree_0 : decode cX7_countFree 0 = .ok (.iconst 0, 1) := by decide +kernel
theorem dX7_countFree_1 : decode cX7_countFree 1 = .ok (.istore_n 3, 1) := by decide +kernel
theorem dX7_countFree_2 : decode cX7_countFree 2 = .ok (.iload_n 1, 1) := by decide +kernel
theorem dX7_countFree_3 : decode cX7_countFree 3 = .ok (.istore 4, 2) := by decide +kernel
theorem dX7_countFree_5 : decode cX7_countFree 5 = .ok (.iload 4, 2) := by decide +kernel
theorem dX7_countFree_7 : decode cX7_countFree 7 = .ok (.iload_n 2, 1) := by decide +kernel
theorem dX7_countFree_8 : decode cX7_countFree 8 = .ok (.if_icmp .ge 26, 3) := by decide +kernel
theorem dX7_countFree_11 : decode cX7_countFree 11 = .ok (.iload_n 3, 1) := by decide +kernel
theorem dX7_countFree_12 : decode cX7_countFree 12 = .ok (.aload_n 0, 1) := by decide +kernel
theorem dX7_countFree_13 : decode cX7_countFree 13 = .ok (.iload 4, 2) := by decide +kernel
theorem dX7_countFree_15 : decode cX7_countFree 15 = .ok (.invokevirtual 34, 3) := by decide +kernel
theorem dX7_countFree_18 : decode cX7_countFree 18 = .ok (.ifCond .eq 7, 3) := by decide +kernel
theorem dX7_countFree_21 : decode cX7_countFree 21 = .ok (.iconst 1, 1) := by decide +kernel
theorem dX7_countFree_22 : decode cX7_countFree 22 = .ok (.goto 4, 3) := by decide +kernel
theorem dX7_countFree_25 : decode cX7_countFree 25 = .ok (.iconst 0, 1) := by decide +kernel
theorem dX7_countFree_26 : decode cX7_countFree 26 = .ok (.iadd, 1) := by decide +kernel
theorem dX7_countFree_27 : decode cX7_countFree 27 = .ok (.istore_n 3, 1) := by decide +kernel
theorem dX7_countFree_28 : decode cX7_countFree 28 = .ok (.iinc 4 1, 3) := by decide +kernel
theorem dX7_countFree_31 : decode cX7_countFree 31 = .ok (.goto (-26), 3) := by decide +kernel
theorem dX7_countFree_34 : decode cX7_countFree 34 = .ok (.iload_n 3, 1) := by decide +kernel
theorem dX7_countFree_35 : decode cX7_countFree 35 = .ok (.ireturn, 1) := by decide +kernel
theorem dX7_nextFree_0 : decode cX7_nextFree 0 = .ok (.iconst 0, 1) := by decide +kernel
theorem dX7_nextFree_1 : decode cX7_nextFree 1 = .ok (.istore_n 1, 1) := by decide +kernel
theorem dX7_nextFree_2 : decode cX7_nextFree 2 = .ok (.iconst 1, 1) := by decide +kernel
theorem dX7_nextFree_3 : decode cX7_nextFree 3 = .ok (.istore_n 2, 1) := by decide +kernel
theorem dX7_nextFree_4 : decode cX7_nextFree 4 = .ok (.iload_n 2, 1) := by decide +kernel
theorem dX7_nextFree_5 : decode cX7_nextFree 5 = .ok (.iconst 4, 1) := by decide +kernel
theorem dX7_nextFree_6 : decode cX7_nextFree 6 = .ok (.if_icmp .ge 58, 3) := by decide +kernel
theorem dX7_nextFree_9 : decode cX7_nextFree 9 = .ok (.aload_n 0, 1) := by decide +kernel
theorem dX7_nextFree_10 : decode cX7_nextFree 10 = .ok (.bipush 32, 2) := by decide +kernel
theorem dX7_nextFree_12 : decode cX7_nextFree 12 = .ok (.iload_n 2, 1) := by decide +kernel
theorem dX7_nextFree_13 : decode cX7_nextFree 13 = .ok (.imul, 1) := by decide +kernel
theorem dX7_nextFree_14 : decode cX7_nextFree 14 = .ok (.bipush 32, 2) := by decide +kernel
theorem dX7_nextFree_16 : decode cX7_nextFree 16 = .ok (.iload_n 2, 1) := by decide +kernel
theorem dX7_nextFree_17 : decode cX7_nextFree 17 = .ok (.imul, 1) := by decide +kernel
theorem dX7_nextFree_18 : decode cX7_nextFree 18 = .ok (.bipush 32, 2) := by decide +kernel
theorem dX7_nextFree_20 : decode cX7_nextFree 20 = .ok (.iadd, 1) := by decide +kernel
theorem dX7_nextFree_21 : decode cX7_nextFree 21 = .ok (.invokevirtual 37, 3) := by decide +kernel
theorem dX7_nextFree_24 : decode cX7_nextFree 24 = .ok (.aload_n 0, 1) := by decide +kernel
theorem dX7_nextFree_25 : decode cX7_nextFree 25 = .ok (.bipush 32, 2) := by decide +kernel
theorem dX7_nextFree_27 : decode cX7_nextFree 27 = .ok (.iload_n 1, 1) := by decide +kernel
theorem dX7_nextFree_28 : decode cX7_nextFree 28 = .ok (.imul, 1) := by decide +kernel
theorem dX7_nextFree_29 : decode cX7_nextFree 29 = .ok (.bipush 32, 2) := by decide +kernel
theorem dX7_nextFree_31 : decode cX7_nextFree 31 = .ok (.iload_n 1, 1) := by decide +kernel
theorem dX7_nextFree_32 : decode cX7_nextFree 32 = .ok (.imul, 1) := by decide +kernel
theorem dX7_nextFree_33 : decode cX7_nextFree 33 = .ok (.bipush 32, 2) := by decide +kernel
theorem dX7_nextFree_35 : decode cX7_nextFree 35 = .ok (.iadd, 1) := by decide +kernel
theorem dX7_nextFree_36 : decode cX7_nextFree 36 = .ok (.invokevirtual 37, 3) := by decide +kernel
theorem dX7_nextFree_39 : decode cX7_nextFree 39 = .ok (.if_icmp .le 7, 3) := by decide +kernel
theorem dX7_nextFree_42 : decode cX7_nextFree 42 = .ok (.iconst 1, 1) := by decide +kernel
theorem dX7_nextFree_43 : decode cX7_nextFree 43 = .ok (.goto 4, 3) := by decide +kernel
theorem dX7_nextFree_46 : decode cX7_nextFree 46 = .ok (.iconst 0, 1) := by decide +kernel
theorem dX7_nextFree_47 : decode cX7_nextFree 47 = .ok (.istore_n 3, 1) := by decide +kernel
theorem dX7_nextFree_48 : decode cX7_nextFree 48 = .ok (.iload_n 3, 1) := by decide +kernel
theorem dX7_nextFree_49 : decode cX7_nextFree 49 = .ok (.ifCond .eq 7, 3) := by decide +kernel
theorem dX7_nextFree_52 : decode cX7_nextFree 52 = .ok (.iload_n 2, 1) := by decide +kernel
theorem dX7_nextFree_53 : decode cX7_nextFree 53 = .ok (.goto 4, 3) := by decide +kernel
theorem dX7_nextFree_56 : decode cX7_nextFree 56 = .ok (.iload_n 1, 1) := by decide +kernel
theorem dX7_nextFree_57 : decode cX7_nextFree 57 = .ok (.istore_n 1, 1) := by decide +kernel
theorem dX7_nextFree_58 : decode cX7_nextFree 58 = .ok (.iinc 2 1, 3) := by decide +kernel
theorem dX7_nextFree_61 : decode cX7_nextFree 61 = .ok (.goto (-57), 3) := by decide +kernel
theorem dX7_nextFree_64 : decode cX7_nextFree 64 = .ok (.bipush 32, 2) := by decide +kernel
theorem dX7_nextFree_66 : decode cX7_nextFree 66 = .ok (.iload_n 1, 1) := by decide +kernel
theorem dX7_nextFree_67 : decode cX7_nextFree 67 = .ok (.imul, 1) := by decide +kernel
theorem dX7_nextFree_68 : decode cX7_nextFree 68 = .ok (.istore_n 2, 1) := by decide +kernel
theorem dX7_nextFree_69 : decode cX7_nextFree 69 = .ok (.iload_n 2, 1) := by decide +kernel
theorem dX7_nextFree_70 : decode cX7_nextFree 70 = .ok (.bipush 32, 2) := by decide +kernel
theorem dX7_nextFree_72 : decode cX7_nextFree 72 = .ok (.iload_n 1, 1) := by decide +kernel
theorem dX7_nextFree_73 : decode cX7_nextFree 73 = .ok (.imul, 1) := by decide +kernel
theorem dX7_nextFree_74 : decode cX7_nextFree 74 = .ok (.bipush 32, 2) := by decide +kernel
theorem dX7_nextFree_76 : decode cX7_nextFree 76 = .ok (.iadd, 1) := by decide +kernel
theorem dX7_nextFree_77 : decode cX7_nextFree 77 = .ok (.if_icmp .ge 19, 3) := by decide +kernel
theorem dX7_nextFree_80 : decode cX7_nextFree 80 = .ok (.aload_n 0, 1) := by decide +kernel
theorem dX7_nextFree_81 : decode cX7_nextFree 81 = .ok (.iload_n 2, 1) := by decide +kernel
theorem dX7_nextFree_82 : decode cX7_nextFree 82 = .ok (.invokevirtual 34, 3) := by decide +kernel
theorem dX7_nextFree_85 : decode cX7_nextFree 85 = .ok (.ifCond .eq 5, 3) := by decide +kernel
theorem dX7_nextFree_88 : decode cX7_nextFree 88 = .ok (.iload_n 2, 1) := by decide +kernel
theorem dX7_nextFree_89 : decode cX7_nextFree 89 = .ok (.ireturn, 1) := by decide +kernel
theorem dX7_nextFree_90 : decode cX7_nextFree 90 = .ok (.iinc 2 1, 3) := by decide +kernel
theorem dX7_nextFree_93 : decode cX7_nextFree 93 = .ok (.goto (-24), 3) := by decide +kernel
theorem dX7_nextFree_96 : decode cX7_nextFree 96 = .ok (.iconst (-1), 1) := by decide +kernel
theorem dX7_nextFree_97 : decode cX7_nextFree 97 = .ok (.ireturn, 1) := by decide +kernel
theorem dX7_write_0 : decode cX7_write 0 = .ok (.aload_n 0, 1) := by decide +kernel
theorem dX7_write_1 : decode cX7_write 1 = .ok (.aload_n 0, 1) := by decide +kernel
theorem dX7_write_2 : decode cX7_write 2 = .ok (.iload_n 1, 1) := by decide +kernel
theorem dX7_write_3 : decode cX7_write 3 = .ok (.invokevirtual 41, 3) := by decide +kernel
theorem dX7_write_6 : decode cX7_write 6 = .ok (.ifCond .eq 15, 3) := by decide +kernel
theorem dX7_write_9 : decode cX7_write 9 = .ok (.iload_n 2, 1) := by decide +kernel
theorem dX7_write_10 : decode cX7_write 10 = .ok (.iload_n 3, 1) := by decide +kernel
theorem dX7_write_11 : decode cX7_write 11 = .ok (.invokestatic 44, 3) := by decide +kernel
theorem dX7_write_14 : decode cX7_write 14 = .ok (.ifCond .eq 7, 3) := by decide +kernel
theorem dX7_write_17 : decode cX7_write 17 = .ok (.iconst 0, 1) := by decide +kernel
theorem dX7_write_18 : decode cX7_write 18 = .ok (.goto 4, 3) := by decide +kernel
theorem dX7_write_21 : decode cX7_write 21 = .ok (.iconst 1, 1) := by decide +kernel
theorem dX7_write_22 : decode cX7_write 22 = .ok (.putfield 22, 3) := by decide +kernel
theorem dX7_write_25 : decode cX7_write 25 = .ok (.aload_n 0, 1) := by decide +kernel
theorem dX7_write_26 : decode cX7_write 26 = .ok (.getfield 22, 3) := by decide +kernel
theorem dX7_write_29 : decode cX7_write 29 = .ok (.ifCond .le 5, 3) := by decide +kernel
theorem dX7_write_32 : decode cX7_write 32 = .ok (.iconst 0, 1) := by decide +kernel
theorem dX7_write_33 : decode cX7_write 33 = .ok (.ireturn, 1) := by decide +kernel
theorem dX7_write_34 : decode cX7_write 34 = .ok (.iload_n 1, 1) := by decide +kernel
theorem dX7_write_35 : decode cX7_write 35 = .ok (.iload_n 2, 1) := by decide +kernel
theorem dX7_write_36 : decode cX7_write 36 = .ok (.iload_n 3, 1) := by decide +kernel
theorem dX7_write_37 : decode cX7_write 37 = .ok (.invokestatic 48, 3) := by decide +kernel
theorem dX7_write_40 : decode cX7_write 40 = .ok (.istore 5, 2) := by decide +kernel
theorem dX7_write_42 : decode cX7_write 42 = .ok (.aload_n 0, 1) := by decide +kernel
theorem dX7_write_43 : decode cX7_write 43 = .ok (.getfield 7, 3) := by decide +kernel
theorem dX7_write_46 : decode cX7_write 46 = .ok (.iload 5, 2) := by decide +kernel
theorem dX7_write_48 : decode cX7_write 48 = .ok (.iaload, 1) := by decide +kernel
theorem dX7_write_49 : decode cX7_write 49 = .ok (.iconst 1, 1) := by decide +kernel
theorem dX7_write_50 : decode cX7_write 50 = .ok (.isub, 1) := by decide +kernel
theorem dX7_write_51 : decode cX7_write 51 = .ok (.istore 6, 2) := by decide +kernel
theorem dX7_write_53 : decode cX7_write 53 = .ok (.iload 6, 2) := by decide +kernel
theorem dX7_write_55 : decode cX7_write 55 = .ok (.ifCond .lt 44, 3) := by decide +kernel
theorem dX7_write_58 : decode cX7_write 58 = .ok (.aload_n 0, 1) := by decide +kernel
theorem dX7_write_59 : decode cX7_write 59 = .ok (.getfield 7, 3) := by decide +kernel
theorem dX7_write_62 : decode cX7_write 62 = .ok (.sipush 2558, 3) := by decide +kernel
theorem dX7_write_65 : decode cX7_write 65 = .ok (.iload 6, 2) := by decide +kernel
theorem dX7_write_67 : decode cX7_write 67 = .ok (.iadd, 1) := by decide +kernel
theorem dX7_write_68 : decode cX7_write 68 = .ok (.iaload, 1) := by decide +kernel
theorem dX7_write_69 : decode cX7_write 69 = .ok (.aload_n 0, 1) := by decide +kernel
theorem dX7_write_70 : decode cX7_write 70 = .ok (.getfield 7, 3) := by decide +kernel
theorem dX7_write_73 : decode cX7_write 73 = .ok (.sipush 3395, 3) := by decide +kernel
theorem dX7_write_76 : decode cX7_write 76 = .ok (.iaload, 1) := by decide +kernel
theorem dX7_write_77 : decode cX7_write 77 = .ok (.if_icmp .ne 22, 3) := by decide +kernel
theorem dX7_write_80 : decode cX7_write 80 = .ok (.aload_n 0, 1) := by decide +kernel
theorem dX7_write_81 : decode cX7_write 81 = .ok (.getfield 7, 3) := by decide +kernel
theorem dX7_write_84 : decode cX7_write 84 = .ok (.sipush 2814, 3) := by decide +kernel
theorem dX7_write_87 : decode cX7_write 87 = .ok (.iload 6, 2) := by decide +kernel
theorem dX7_write_89 : decode cX7_write 89 = .ok (.iadd, 1) := by decide +kernel
theorem dX7_write_90 : decode cX7_write 90 = .ok (.iaload, 1) := by decide +kernel
theorem dX7_write_91 : decode cX7_write 91 = .ok (.iconst 1, 1) := by decide +kernel
theorem dX7_write_92 : decode cX7_write 92 = .ok (.if_icmp .ne 7, 3) := by decide +kernel
theorem dX7_write_95 : decode cX7_write 95 = .ok (.iconst 1, 1) := by decide +kernel
theorem dX7_write_96 : decode cX7_write 96 = .ok (.goto 4, 3) := by decide +kernel
theorem dX7_write_99 : decode cX7_write 99 = .ok (.iconst 0, 1) := by decide +kernel
theorem dX7_write_100 : decode cX7_write 100 = .ok (.istore 7, 2) := by decide +kernel
theorem dX7_write_102 : decode cX7_write 102 = .ok (.iload 7, 2) := by decide +kernel
theorem dX7_write_104 : decode cX7_write 104 = .ok (.ifCond .eq 8, 3) := by decide +kernel
theorem dX7_write_107 : decode cX7_write 107 = .ok (.iload 6, 2) := by decide +kernel
theorem dX7_write_109 : decode cX7_write 109 = .ok (.goto 7, 3) := by decide +kernel
theorem dX7_write_112 : decode cX7_write 112 = .ok (.aload_n 0, 1) := by decide +kernel
theorem dX7_write_113 : decode cX7_write 113 = .ok (.invokevirtual 52, 3) := by decide +kernel
theorem dX7_write_116 : decode cX7_write 116 = .ok (.istore 6, 2) := by decide +kernel
theorem dX7_write_118 : decode cX7_write 118 = .ok (.aload_n 0, 1) := by decide +kernel
theorem dX7_write_119 : decode cX7_write 119 = .ok (.iload 6, 2) := by decide +kernel
theorem dX7_write_121 : decode cX7_write 121 = .ok (.ifCond .ge 7, 3) := by decide +kernel
theorem dX7_write_124 : decode cX7_write 124 = .ok (.iconst 2, 1) := by decide +kernel
theorem dX7_write_125 : decode cX7_write 125 = .ok (.goto 4, 3) := by decide +kernel
theorem dX7_write_128 : decode cX7_write 128 = .ok (.iconst 0, 1) := by decide +kernel
theorem dX7_write_129 : decode cX7_write 129 = .ok (.putfield 22, 3) := by decide +kernel
theorem dX7_write_132 : decode cX7_write 132 = .ok (.aload_n 0, 1) := by decide +kernel
theorem dX7_write_133 : decode cX7_write 133 = .ok (.getfield 22, 3) := by decide +kernel
theorem dX7_write_136 : decode cX7_write 136 = .ok (.ifCond .le 5, 3) := by decide +kernel
theorem dX7_write_139 : decode cX7_write 139 = .ok (.iconst 0, 1) := by decide +kernel
theorem dX7_write_140 : decode cX7_write 140 = .ok (.ireturn, 1) := by decide +kernel
theorem dX7_write_141 : decode cX7_write 141 = .ok (.aload_n 0, 1) := by decide +kernel
theorem dX7_write_142 : decode cX7_write 142 = .ok (.getfield 7, 3) := by decide +kernel
theorem dX7_write_145 : decode cX7_write 145 = .ok (.sipush 2430, 3) := by decide +kernel
theorem dX7_write_148 : decode cX7_write 148 = .ok (.iload 6, 2) := by decide +kernel
theorem dX7_write_150 : decode cX7_write 150 = .ok (.iadd, 1) := by decide +kernel
theorem dX7_write_151 : decode cX7_write 151 = .ok (.iload 4, 2) := by decide +kernel
theorem dX7_write_153 : decode cX7_write 153 = .ok (.iastore, 1) := by decide +kernel
theorem dX7_write_154 : decode cX7_write 154 = .ok (.aload_n 0, 1) := by decide +kernel
theorem dX7_write_155 : decode cX7_write 155 = .ok (.getfield 7, 3) := by decide +kernel
theorem dX7_write_158 : decode cX7_write 158 = .ok (.sipush 2558, 3) := by decide +kernel
theorem dX7_write_161 : decode cX7_write 161 = .ok (.iload 6, 2) := by decide +kernel
theorem dX7_write_163 : decode cX7_write 163 = .ok (.iadd, 1) := by decide +kernel
theorem dX7_write_164 : decode cX7_write 164 = .ok (.aload_n 0, 1) := by decide +kernel
theorem dX7_write_165 : decode cX7_write 165 = .ok (.getfield 7, 3) := by decide +kernel
theorem dX7_write_168 : decode cX7_write 168 = .ok (.sipush 3395, 3) := by decide +kernel
theorem dX7_write_171 : decode cX7_write 171 = .ok (.iaload, 1) := by decide +kernel
theorem dX7_write_172 : decode cX7_write 172 = .ok (.iastore, 1) := by decide +kernel
theorem dX7_write_173 : decode cX7_write 173 = .ok (.aload_n 0, 1) := by decide +kernel
theorem dX7_write_174 : decode cX7_write 174 = .ok (.getfield 7, 3) := by decide +kernel
theorem dX7_write_177 : decode cX7_write 177 = .ok (.iload 5, 2) := by decide +kernel
theorem dX7_write_179 : decode cX7_write 179 = .ok (.iload 6, 2) := by decide +kernel
theorem dX7_write_181 : decode cX7_write 181 = .ok (.iconst 1, 1) := by decide +kernel
theorem dX7_write_182 : decode cX7_write 182 = .ok (.iadd, 1) := by decide +kernel
theorem dX7_write_183 : decode cX7_write 183 = .ok (.iastore, 1) := by decide +kernel
theorem dX7_write_184 : decode cX7_write 184 = .ok (.aload_n 0, 1) := by decide +kernel
theorem dX7_write_185 : decode cX7_write 185 = .ok (.invokevirtual 56, 3) := by decide +kernel
theorem dX7_write_188 : decode cX7_write 188 = .ok (.istore 8, 2) := by decide +kernel
theorem dX7_write_190 : decode cX7_write 190 = .ok (.iload 8, 2) := by decide +kernel
theorem dX7_write_192 : decode cX7_write 192 = .ok (.ifCond .ge 7, 3) := by decide +kernel
theorem dX7_write_195 : decode cX7_write 195 = .ok (.iconst (-1), 1) := by decide +kernel
theorem dX7_write_196 : decode cX7_write 196 = .ok (.goto 5, 3) := by decide +kernel
theorem dX7_write_199 : decode cX7_write 199 = .ok (.iload 6, 2) := by decide +kernel
theorem dX7_write_201 : decode cX7_write 201 = .ok (.ireturn, 1) := by decide +kernel
theorem dX7_isKnown_0 : decode cX7_isKnown 0 = .ok (.aload_n 0, 1) := by decide +kernel
theorem dX7_isKnown_1 : decode cX7_isKnown 1 = .ok (.aload_n 0, 1) := by decide +kernel
theorem dX7_isKnown_2 : decode cX7_isKnown 2 = .ok (.iload_n 1, 1) := by decide +kernel
theorem dX7_isKnown_3 : decode cX7_isKnown 3 = .ok (.invokevirtual 41, 3) := by decide +kernel
theorem dX7_isKnown_6 : decode cX7_isKnown 6 = .ok (.ifCond .eq 15, 3) := by decide +kernel
theorem dX7_isKnown_9 : decode cX7_isKnown 9 = .ok (.iload_n 2, 1) := by decide +kernel
theorem dX7_isKnown_10 : decode cX7_isKnown 10 = .ok (.iload_n 3, 1) := by decide +kernel
theorem dX7_isKnown_11 : decode cX7_isKnown 11 = .ok (.invokestatic 44, 3) := by decide +kernel
theorem dX7_isKnown_14 : decode cX7_isKnown 14 = .ok (.ifCond .eq 7, 3) := by decide +kernel
theorem dX7_isKnown_17 : decode cX7_isKnown 17 = .ok (.iconst 1, 1) := by decide +kernel
theorem dX7_isKnown_18 : decode cX7_isKnown 18 = .ok (.goto 4, 3) := by decide +kernel
theorem dX7_isKnown_21 : decode cX7_isKnown 21 = .ok (.iconst 0, 1) := by decide +kernel
theorem dX7_isKnown_22 : decode cX7_isKnown 22 = .ok (.iconst 1, 1) := by decide +kernel
theorem dX7_isKnown_23 : decode cX7_isKnown 23 = .ok (.invokevirtual 59, 3) := by decide +kernel
theorem dX7_isKnown_26 : decode cX7_isKnown 26 = .ok (.ireturn, 1) := by decide +kernel
theorem dX7_valueAt_0 : decode cX7_valueAt 0 = .ok (.aload_n 0, 1) := by decide +kernel
theorem dX7_valueAt_1 : decode cX7_valueAt 1 = .ok (.getfield 7, 3) := by decide +kernel
theorem dX7_valueAt_4 : decode cX7_valueAt 4 = .ok (.iload_n 1, 1) := by decide +kernel
theorem dX7_valueAt_5 : decode cX7_valueAt 5 = .ok (.iaload, 1) := by decide +kernel
theorem dX7_valueAt_6 : decode cX7_valueAt 6 = .ok (.ifCond .ne 7, 3) := by decide +kernel
theorem dX7_valueAt_9 : decode cX7_valueAt 9 = .ok (.iconst 0, 1) := by decide +kernel
theorem dX7_valueAt_10 : decode cX7_valueAt 10 = .ok (.goto 20, 3) := by decide +kernel
theorem dX7_valueAt_13 : decode cX7_valueAt 13 = .ok (.aload_n 0, 1) := by decide +kernel
theorem dX7_valueAt_14 : decode cX7_valueAt 14 = .ok (.getfield 7, 3) := by decide +kernel
theorem dX7_valueAt_17 : decode cX7_valueAt 17 = .ok (.sipush 2430, 3) := by decide +kernel
theorem dX7_valueAt_20 : decode cX7_valueAt 20 = .ok (.aload_n 0, 1) := by decide +kernel
theorem dX7_valueAt_21 : decode cX7_valueAt 21 = .ok (.getfield 7, 3) := by decide +kernel
theorem dX7_valueAt_24 : decode cX7_valueAt 24 = .ok (.iload_n 1, 1) := by decide +kernel
theorem dX7_valueAt_25 : decode cX7_valueAt 25 = .ok (.iaload, 1) := by decide +kernel
theorem dX7_valueAt_26 : decode cX7_valueAt 26 = .ok (.iadd, 1) := by decide +kernel
theorem dX7_valueAt_27 : decode cX7_valueAt 27 = .ok (.iconst 1, 1) := by decide +kernel
theorem dX7_valueAt_28 : decode cX7_valueAt 28 = .ok (.isub, 1) := by decide +kernel
theorem dX7_valueAt_29 : decode cX7_valueAt 29 = .ok (.iaload, 1) := by decide +kernel
theorem dX7_valueAt_30 : decode cX7_valueAt 30 = .ok (.ireturn, 1) := by decide +kernel
theorem dX7_read_0 : decode cX7_read 0 = .ok (.aload_n 0, 1) := by decide +kernel
theorem dX7_read_1 : decode cX7_read 1 = .ok (.iload_n 1, 1) := by decide +kernel
theorem dX7_read_2 : decode cX7_read 2 = .ok (.iload_n 2, 1) := by decide +kernel
theorem dX7_read_3 : decode cX7_read 3 = .ok (.iload_n 3, 1) := by decide +kernel
theorem dX7_read_4 : decode cX7_read 4 = .ok (.invokevirtual 63, 3) := by decide +kernel
theorem dX7_read_7 : decode cX7_read 7 = .ok (.ifCond .eq 16, 3) := by decide +kernel
theorem dX7_read_10 : decode cX7_read 10 = .ok (.aload_n 0, 1) := by decide +kernel
theorem dX7_read_11 : decode cX7_read 11 = .ok (.iload_n 1, 1) := by decide +kernel
theorem dX7_read_12 : decode cX7_read 12 = .ok (.iload_n 2, 1) := by decide +kernel
theorem dX7_read_13 : decode cX7_read 13 = .ok (.iload_n 3, 1) := by decide +kernel
theorem dX7_read_14 : decode cX7_read 14 = .ok (.invokestatic 48, 3) := by decide +kernel
theorem dX7_read_17 : decode cX7_read 17 = .ok (.invokevirtual 66, 3) := by decide +kernel
theorem dX7_read_20 : decode cX7_read 20 = .ok (.goto 4, 3) := by decide +kernel
theorem dX7_read_23 : decode cX7_read 23 = .ok (.iconst 0, 1) := by decide +kernel
theorem dX7_read_24 : decode cX7_read 24 = .ok (.ireturn, 1) := by decide +kernel
theorem dX7_blockAt_0 : decode cX7_blockAt 0 = .ok (.aload_n 0, 1) := by decide +kernel
theorem dX7_blockAt_1 : decode cX7_blockAt 1 = .ok (.iload_n 1, 1) := by decide +kernel
theorem dX7_blockAt_2 : decode cX7_blockAt 2 = .ok (.iload_n 2, 1) := by decide +kernel
theorem dX7_blockAt_3 : decode cX7_blockAt 3 = .ok (.iload_n 3, 1) := by decide +kernel
theorem dX7_blockAt_4 : decode cX7_blockAt 4 = .ok (.invokevirtual 63, 3) := by decide +kernel
theorem dX7_blockAt_7 : decode cX7_blockAt 7 = .ok (.ifCond .eq 19, 3) := by decide +kernel
theorem dX7_blockAt_10 : decode cX7_blockAt 10 = .ok (.aload_n 0, 1) := by decide +kernel
theorem dX7_blockAt_11 : decode cX7_blockAt 11 = .ok (.getfield 7, 3) := by decide +kernel
theorem dX7_blockAt_14 : decode cX7_blockAt 14 = .ok (.iload_n 1, 1) := by decide +kernel
theorem dX7_blockAt_15 : decode cX7_blockAt 15 = .ok (.iload_n 2, 1) := by decide +kernel
theorem dX7_blockAt_16 : decode cX7_blockAt 16 = .ok (.iload_n 3, 1) := by decide +kernel
theorem dX7_blockAt_17 : decode cX7_blockAt 17 = .ok (.invokestatic 48, 3) := by decide +kernel
theorem dX7_blockAt_20 : decode cX7_blockAt 20 = .ok (.iaload, 1) := by decide +kernel
theorem dX7_blockAt_21 : decode cX7_blockAt 21 = .ok (.iconst 1, 1) := by decide +kernel
theorem dX7_blockAt_22 : decode cX7_blockAt 22 = .ok (.isub, 1) := by decide +kernel
theorem dX7_blockAt_23 : decode cX7_blockAt 23 = .ok (.goto 4, 3) := by decide +kernel
theorem dX7_blockAt_26 : decode cX7_blockAt 26 = .ok (.iconst 0, 1) := by decide +kernel
theorem dX7_blockAt_27 : decode cX7_blockAt 27 = .ok (.ireturn, 1) := by decide +kernel
theorem dX7_length_0 : decode cX7_length 0 = .ok (.iconst 0, 1) := by decide +kernel
theorem dX7_length_1 : decode cX7_length 1 = .ok (.istore_n 3, 1) := by decide +kernel
theorem dX7_length_2 : decode cX7_length 2 = .ok (.aload_n 0, 1) := by decide +kernel
theorem dX7_length_3 : decode cX7_length 3 = .ok (.aload_n 0, 1) := by decide +kernel
theorem dX7_length_4 : decode cX7_length 4 = .ok (.iload_n 1, 1) := by decide +kernel
theorem dX7_length_5 : decode cX7_length 5 = .ok (.invokevirtual 41, 3) := by decide +kernel
theorem dX7_length_8 : decode cX7_length 8 = .ok (.ifCond .eq 14, 3) := by decide +kernel
theorem dX7_length_11 : decode cX7_length 11 = .ok (.iload_n 2, 1) := by decide +kernel
theorem dX7_length_12 : decode cX7_length 12 = .ok (.invokestatic 30, 3) := by decide +kernel
theorem dX7_length_15 : decode cX7_length 15 = .ok (.ifCond .eq 7, 3) := by decide +kernel
theorem dX7_length_18 : decode cX7_length 18 = .ok (.iconst 1, 1) := by decide +kernel
theorem dX7_length_19 : decode cX7_length 19 = .ok (.goto 4, 3) := by decide +kernel
theorem dX7_length_22 : decode cX7_length 22 = .ok (.iconst 0, 1) := by decide +kernel
theorem dX7_length_23 : decode cX7_length 23 = .ok (.iconst 1, 1) := by decide +kernel
theorem dX7_length_24 : decode cX7_length 24 = .ok (.invokevirtual 59, 3) := by decide +kernel
theorem dX7_length_27 : decode cX7_length 27 = .ok (.istore 4, 2) := by decide +kernel
theorem dX7_length_29 : decode cX7_length 29 = .ok (.iconst 0, 1) := by decide +kernel
theorem dX7_length_30 : decode cX7_length 30 = .ok (.istore 5, 2) := by decide +kernel
theorem dX7_length_32 : decode cX7_length 32 = .ok (.iload 5, 2) := by decide +kernel
theorem dX7_length_34 : decode cX7_length 34 = .ok (.bipush 16, 2) := by decide +kernel
theorem dX7_length_36 : decode cX7_length 36 = .ok (.if_icmp .ge 38, 3) := by decide +kernel
theorem dX7_length_39 : decode cX7_length 39 = .ok (.iload 4, 2) := by decide +kernel
theorem dX7_length_41 : decode cX7_length 41 = .ok (.ifCond .eq 33, 3) := by decide +kernel
theorem dX7_length_44 : decode cX7_length 44 = .ok (.aload_n 0, 1) := by decide +kernel
theorem dX7_length_45 : decode cX7_length 45 = .ok (.getfield 7, 3) := by decide +kernel
theorem dX7_length_48 : decode cX7_length 48 = .ok (.iload_n 1, 1) := by decide +kernel
theorem dX7_length_49 : decode cX7_length 49 = .ok (.iload_n 2, 1) := by decide +kernel
theorem dX7_length_50 : decode cX7_length 50 = .ok (.iload 5, 2) := by decide +kernel
theorem dX7_length_52 : decode cX7_length 52 = .ok (.invokestatic 48, 3) := by decide +kernel
theorem dX7_length_55 : decode cX7_length 55 = .ok (.iaload, 1) := by decide +kernel
theorem dX7_length_56 : decode cX7_length 56 = .ok (.ifCond .le 10, 3) := by decide +kernel
theorem dX7_length_59 : decode cX7_length 59 = .ok (.iload 5, 2) := by decide +kernel
theorem dX7_length_61 : decode cX7_length 61 = .ok (.iconst 1, 1) := by decide +kernel
theorem dX7_length_62 : decode cX7_length 62 = .ok (.iadd, 1) := by decide +kernel
theorem dX7_length_63 : decode cX7_length 63 = .ok (.goto 4, 3) := by decide +kernel
theorem dX7_length_66 : decode cX7_length 66 = .ok (.iload_n 3, 1) := by decide +kernel
theorem dX7_length_67 : decode cX7_length 67 = .ok (.istore_n 3, 1) := by decide +kernel
theorem dX7_length_68 : decode cX7_length 68 = .ok (.iinc 5 1, 3) := by decide +kernel
theorem dX7_length_71 : decode cX7_length 71 = .ok (.goto (-39), 3) := by decide +kernel
theorem dX7_length_74 : decode cX7_length 74 = .ok (.iload_n 3, 1) := by decide +kernel
theorem dX7_length_75 : decode cX7_length 75 = .ok (.ireturn, 1) := by decide +kernel
theorem dX7_punch_0 : decode cX7_punch 0 = .ok (.aload_n 0, 1) := by decide +kernel
theorem dX7_punch_1 : decode cX7_punch 1 = .ok (.aload_n 0, 1) := by decide +kernel
theorem dX7_punch_2 : decode cX7_punch 2 = .ok (.iload_n 1, 1) := by decide +kernel
theorem dX7_punch_3 : decode cX7_punch 3 = .ok (.invokevirtual 41, 3) := by decide +kernel
theorem dX7_punch_6 : decode cX7_punch 6 = .ok (.ifCond .eq 15, 3) := by decide +kernel
theorem dX7_punch_9 : decode cX7_punch 9 = .ok (.iload_n 2, 1) := by decide +kernel
theorem dX7_punch_10 : decode cX7_punch 10 = .ok (.iload_n 3, 1) := by decide +kernel
theorem dX7_punch_11 : decode cX7_punch 11 = .ok (.invokestatic 44, 3) := by decide +kernel
theorem dX7_punch_14 : decode cX7_punch 14 = .ok (.ifCond .eq 7, 3) := by decide +kernel
theorem dX7_punch_17 : decode cX7_punch 17 = .ok (.iconst 1, 1) := by decide +kernel
theorem dX7_punch_18 : decode cX7_punch 18 = .ok (.goto 4, 3) := by decide +kernel
theorem dX7_punch_21 : decode cX7_punch 21 = .ok (.iconst 0, 1) := by decide +kernel
theorem dX7_punch_22 : decode cX7_punch 22 = .ok (.iload 4, 2) := by decide +kernel
theorem dX7_punch_24 : decode cX7_punch 24 = .ok (.iconst 1, 1) := by decide +kernel
theorem dX7_punch_25 : decode cX7_punch 25 = .ok (.bipush 16, 2) := by decide +kernel
theorem dX7_punch_27 : decode cX7_punch 27 = .ok (.iload_n 3, 1) := by decide +kernel
theorem dX7_punch_28 : decode cX7_punch 28 = .ok (.isub, 1) := by decide +kernel
theorem dX7_punch_29 : decode cX7_punch 29 = .ok (.invokestatic 26, 3) := by decide +kernel
theorem dX7_punch_32 : decode cX7_punch 32 = .ok (.invokevirtual 59, 3) := by decide +kernel
theorem dX7_punch_35 : decode cX7_punch 35 = .ok (.ifCond .ne 5, 3) := by decide +kernel
theorem dX7_punch_38 : decode cX7_punch 38 = .ok (.iconst 0, 1) := by decide +kernel
theorem dX7_punch_39 : decode cX7_punch 39 = .ok (.ireturn, 1) := by decide +kernel
theorem dX7_punch_40 : decode cX7_punch 40 = .ok (.iconst 0, 1) := by decide +kernel
theorem dX7_punch_41 : decode cX7_punch 41 = .ok (.istore 5, 2) := by decide +kernel
theorem dX7_punch_43 : decode cX7_punch 43 = .ok (.iconst 0, 1) := by decide +kernel
theorem dX7_punch_44 : decode cX7_punch 44 = .ok (.istore 6, 2) := by decide +kernel
theorem dX7_punch_46 : decode cX7_punch 46 = .ok (.iload 6, 2) := by decide +kernel
theorem dX7_punch_48 : decode cX7_punch 48 = .ok (.iload 4, 2) := by decide +kernel
theorem dX7_punch_50 : decode cX7_punch 50 = .ok (.if_icmp .ge 48, 3) := by decide +kernel
theorem dX7_punch_53 : decode cX7_punch 53 = .ok (.iload_n 1, 1) := by decide +kernel
theorem dX7_punch_54 : decode cX7_punch 54 = .ok (.iload_n 2, 1) := by decide +kernel
theorem dX7_punch_55 : decode cX7_punch 55 = .ok (.iload_n 3, 1) := by decide +kernel
theorem dX7_punch_56 : decode cX7_punch 56 = .ok (.iload 6, 2) := by decide +kernel
theorem dX7_punch_58 : decode cX7_punch 58 = .ok (.iadd, 1) := by decide +kernel
theorem dX7_punch_59 : decode cX7_punch 59 = .ok (.invokestatic 48, 3) := by decide +kernel
theorem dX7_punch_62 : decode cX7_punch 62 = .ok (.istore 7, 2) := by decide +kernel
theorem dX7_punch_64 : decode cX7_punch 64 = .ok (.iload 5, 2) := by decide +kernel
theorem dX7_punch_66 : decode cX7_punch 66 = .ok (.aload_n 0, 1) := by decide +kernel
theorem dX7_punch_67 : decode cX7_punch 67 = .ok (.getfield 7, 3) := by decide +kernel
theorem dX7_punch_70 : decode cX7_punch 70 = .ok (.iload 7, 2) := by decide +kernel
theorem dX7_punch_72 : decode cX7_punch 72 = .ok (.iaload, 1) := by decide +kernel
theorem dX7_punch_73 : decode cX7_punch 73 = .ok (.ifCond .le 7, 3) := by decide +kernel
theorem dX7_punch_76 : decode cX7_punch 76 = .ok (.iconst 1, 1) := by decide +kernel
theorem dX7_punch_77 : decode cX7_punch 77 = .ok (.goto 4, 3) := by decide +kernel
theorem dX7_punch_80 : decode cX7_punch 80 = .ok (.iconst 0, 1) := by decide +kernel
theorem dX7_punch_81 : decode cX7_punch 81 = .ok (.iadd, 1) := by decide +kernel
theorem dX7_punch_82 : decode cX7_punch 82 = .ok (.istore 5, 2) := by decide +kernel
theorem dX7_punch_84 : decode cX7_punch 84 = .ok (.aload_n 0, 1) := by decide +kernel
theorem dX7_punch_85 : decode cX7_punch 85 = .ok (.getfield 7, 3) := by decide +kernel
theorem dX7_punch_88 : decode cX7_punch 88 = .ok (.iload 7, 2) := by decide +kernel
theorem dX7_punch_90 : decode cX7_punch 90 = .ok (.iconst 0, 1) := by decide +kernel
theorem dX7_punch_91 : decode cX7_punch 91 = .ok (.iastore, 1) := by decide +kernel
theorem dX7_punch_92 : decode cX7_punch 92 = .ok (.iinc 6 1, 3) := by decide +kernel
theorem dX7_punch_95 : decode cX7_punch 95 = .ok (.goto (-49), 3) := by decide +kernel
theorem dX7_punch_98 : decode cX7_punch 98 = .ok (.aload_n 0, 1) := by decide +kernel
theorem dX7_punch_99 : decode cX7_punch 99 = .ok (.invokevirtual 56, 3) := by decide +kernel
theorem dX7_punch_102 : decode cX7_punch 102 = .ok (.ifCond .ge 7, 3) := by decide +kernel
theorem dX7_punch_105 : decode cX7_punch 105 = .ok (.iconst 0, 1) := by decide +kernel
theorem dX7_punch_106 : decode cX7_punch 106 = .ok (.goto 5, 3) := by decide +kernel
theorem dX7_punch_109 : decode cX7_punch 109 = .ok (.iload 5, 2) := by decide +kernel
theorem dX7_punch_111 : decode cX7_punch 111 = .ok (.ireturn, 1) := by decide +kernel
theorem dX7_reflink_0 : decode cX7_reflink 0 = .ok (.aload_n 0, 1) := by decide +kernel
theorem dX7_reflink_1 : decode cX7_reflink 1 = .ok (.iload_n 1, 1) := by decide +kernel
theorem dX7_reflink_2 : decode cX7_reflink 2 = .ok (.invokevirtual 41, 3) := by decide +kernel
theorem dX7_reflink_5 : decode cX7_reflink 5 = .ok (.ifCond .eq 25, 3) := by decide +kernel
theorem dX7_reflink_8 : decode cX7_reflink 8 = .ok (.iload_n 2, 1) := by decide +kernel
theorem dX7_reflink_9 : decode cX7_reflink 9 = .ok (.iload_n 3, 1) := by decide +kernel
theorem dX7_reflink_10 : decode cX7_reflink 10 = .ok (.invokestatic 44, 3) := by decide +kernel
theorem dX7_reflink_13 : decode cX7_reflink 13 = .ok (.ifCond .eq 17, 3) := by decide +kernel
theorem dX7_reflink_16 : decode cX7_reflink 16 = .ok (.iload 4, 2) := by decide +kernel
theorem dX7_reflink_18 : decode cX7_reflink 18 = .ok (.iload 5, 2) := by decide +kernel
theorem dX7_reflink_20 : decode cX7_reflink 20 = .ok (.invokestatic 44, 3) := by decide +kernel
theorem dX7_reflink_23 : decode cX7_reflink 23 = .ok (.ifCond .eq 7, 3) := by decide +kernel
theorem dX7_reflink_26 : decode cX7_reflink 26 = .ok (.iconst 1, 1) := by decide +kernel
theorem dX7_reflink_27 : decode cX7_reflink 27 = .ok (.goto 4, 3) := by decide +kernel
theorem dX7_reflink_30 : decode cX7_reflink 30 = .ok (.iconst 0, 1) := by decide +kernel
theorem dX7_reflink_31 : decode cX7_reflink 31 = .ok (.istore 7, 2) := by decide +kernel
theorem dX7_reflink_33 : decode cX7_reflink 33 = .ok (.aload_n 0, 1) := by decide +kernel
theorem dX7_reflink_34 : decode cX7_reflink 34 = .ok (.iload 7, 2) := by decide +kernel
theorem dX7_reflink_36 : decode cX7_reflink 36 = .ok (.iload 6, 2) := by decide +kernel
theorem dX7_reflink_38 : decode cX7_reflink 38 = .ok (.iconst 1, 1) := by decide +kernel
theorem dX7_reflink_39 : decode cX7_reflink 39 = .ok (.bipush 16, 2) := by decide +kernel
theorem dX7_reflink_41 : decode cX7_reflink 41 = .ok (.iload_n 3, 1) := by decide +kernel
theorem dX7_reflink_42 : decode cX7_reflink 42 = .ok (.isub, 1) := by decide +kernel
theorem dX7_reflink_43 : decode cX7_reflink 43 = .ok (.invokestatic 26, 3) := by decide +kernel
theorem dX7_reflink_46 : decode cX7_reflink 46 = .ok (.ifCond .eq 21, 3) := by decide +kernel
theorem dX7_reflink_49 : decode cX7_reflink 49 = .ok (.iload 6, 2) := by decide +kernel
theorem dX7_reflink_51 : decode cX7_reflink 51 = .ok (.iconst 1, 1) := by decide +kernel
theorem dX7_reflink_52 : decode cX7_reflink 52 = .ok (.bipush 16, 2) := by decide +kernel
theorem dX7_reflink_54 : decode cX7_reflink 54 = .ok (.iload 5, 2) := by decide +kernel
theorem dX7_reflink_56 : decode cX7_reflink 56 = .ok (.isub, 1) := by decide +kernel
theorem dX7_reflink_57 : decode cX7_reflink 57 = .ok (.invokestatic 26, 3) := by decide +kernel
theorem dX7_reflink_60 : decode cX7_reflink 60 = .ok (.ifCond .eq 7, 3) := by decide +kernel
theorem dX7_reflink_63 : decode cX7_reflink 63 = .ok (.iconst 1, 1) := by decide +kernel
theorem dX7_reflink_64 : decode cX7_reflink 64 = .ok (.goto 4, 3) := by decide +kernel
theorem dX7_reflink_67 : decode cX7_reflink 67 = .ok (.iconst 0, 1) := by decide +kernel
theorem dX7_reflink_68 : decode cX7_reflink 68 = .ok (.invokevirtual 59, 3) := by decide +kernel
theorem dX7_reflink_71 : decode cX7_reflink 71 = .ok (.ifCond .ne 5, 3) := by decide +kernel
theorem dX7_reflink_74 : decode cX7_reflink 74 = .ok (.iconst 0, 1) := by decide +kernel
theorem dX7_reflink_75 : decode cX7_reflink 75 = .ok (.ireturn, 1) := by decide +kernel
theorem dX7_reflink_76 : decode cX7_reflink 76 = .ok (.iconst 0, 1) := by decide +kernel
theorem dX7_reflink_77 : decode cX7_reflink 77 = .ok (.istore 8, 2) := by decide +kernel
theorem dX7_reflink_79 : decode cX7_reflink 79 = .ok (.iload 8, 2) := by decide +kernel
theorem dX7_reflink_81 : decode cX7_reflink 81 = .ok (.iload 6, 2) := by decide +kernel
theorem dX7_reflink_83 : decode cX7_reflink 83 = .ok (.if_icmp .ge 30, 3) := by decide +kernel
theorem dX7_reflink_86 : decode cX7_reflink 86 = .ok (.aload_n 0, 1) := by decide +kernel
theorem dX7_reflink_87 : decode cX7_reflink 87 = .ok (.getfield 19, 3) := by decide +kernel
theorem dX7_reflink_90 : decode cX7_reflink 90 = .ok (.iload 8, 2) := by decide +kernel
theorem dX7_reflink_92 : decode cX7_reflink 92 = .ok (.aload_n 0, 1) := by decide +kernel
theorem dX7_reflink_93 : decode cX7_reflink 93 = .ok (.getfield 7, 3) := by decide +kernel
theorem dX7_reflink_96 : decode cX7_reflink 96 = .ok (.iload_n 1, 1) := by decide +kernel
theorem dX7_reflink_97 : decode cX7_reflink 97 = .ok (.iload_n 2, 1) := by decide +kernel
theorem dX7_reflink_98 : decode cX7_reflink 98 = .ok (.iload_n 3, 1) := by decide +kernel
theorem dX7_reflink_99 : decode cX7_reflink 99 = .ok (.iload 8, 2) := by decide +kernel
theorem dX7_reflink_101 : decode cX7_reflink 101 = .ok (.iadd, 1) := by decide +kernel
theorem dX7_reflink_102 : decode cX7_reflink 102 = .ok (.invokestatic 48, 3) := by decide +kernel
theorem dX7_reflink_105 : decode cX7_reflink 105 = .ok (.iaload, 1) := by decide +kernel
theorem dX7_reflink_106 : decode cX7_reflink 106 = .ok (.iastore, 1) := by decide +kernel
theorem dX7_reflink_107 : decode cX7_reflink 107 = .ok (.iinc 8 1, 3) := by decide +kernel
theorem dX7_reflink_110 : decode cX7_reflink 110 = .ok (.goto (-31), 3) := by decide +kernel
theorem dX7_reflink_113 : decode cX7_reflink 113 = .ok (.iconst 0, 1) := by decide +kernel
theorem dX7_reflink_114 : decode cX7_reflink 114 = .ok (.istore 8, 2) := by decide +kernel
theorem dX7_reflink_116 : decode cX7_reflink 116 = .ok (.iconst 0, 1) := by decide +kernel
theorem dX7_reflink_117 : decode cX7_reflink 117 = .ok (.istore 9, 2) := by decide +kernel
theorem dX7_reflink_119 : decode cX7_reflink 119 = .ok (.iload 9, 2) := by decide +kernel
theorem dX7_reflink_121 : decode cX7_reflink 121 = .ok (.iload 6, 2) := by decide +kernel
theorem dX7_reflink_123 : decode cX7_reflink 123 = .ok (.if_icmp .ge 63, 3) := by decide +kernel
theorem dX7_reflink_126 : decode cX7_reflink 126 = .ok (.iload_n 1, 1) := by decide +kernel
theorem dX7_reflink_127 : decode cX7_reflink 127 = .ok (.iload 4, 2) := by decide +kernel
theorem dX7_reflink_129 : decode cX7_reflink 129 = .ok (.iload 5, 2) := by decide +kernel
theorem dX7_reflink_131 : decode cX7_reflink 131 = .ok (.iload 9, 2) := by decide +kernel
theorem dX7_reflink_133 : decode cX7_reflink 133 = .ok (.iadd, 1) := by decide +kernel
theorem dX7_reflink_134 : decode cX7_reflink 134 = .ok (.invokestatic 48, 3) := by decide +kernel
theorem dX7_reflink_137 : decode cX7_reflink 137 = .ok (.istore 10, 2) := by decide +kernel
theorem dX7_reflink_139 : decode cX7_reflink 139 = .ok (.iload 8, 2) := by decide +kernel
theorem dX7_reflink_141 : decode cX7_reflink 141 = .ok (.aload_n 0, 1) := by decide +kernel
theorem dX7_reflink_142 : decode cX7_reflink 142 = .ok (.getfield 7, 3) := by decide +kernel
theorem dX7_reflink_145 : decode cX7_reflink 145 = .ok (.iload 10, 2) := by decide +kernel
theorem dX7_reflink_147 : decode cX7_reflink 147 = .ok (.iaload, 1) := by decide +kernel
theorem dX7_reflink_148 : decode cX7_reflink 148 = .ok (.aload_n 0, 1) := by decide +kernel
theorem dX7_reflink_149 : decode cX7_reflink 149 = .ok (.getfield 19, 3) := by decide +kernel
theorem dX7_reflink_152 : decode cX7_reflink 152 = .ok (.iload 9, 2) := by decide +kernel
theorem dX7_reflink_154 : decode cX7_reflink 154 = .ok (.iaload, 1) := by decide +kernel
theorem dX7_reflink_155 : decode cX7_reflink 155 = .ok (.if_icmp .eq 7, 3) := by decide +kernel
theorem dX7_reflink_158 : decode cX7_reflink 158 = .ok (.iconst 1, 1) := by decide +kernel
theorem dX7_reflink_159 : decode cX7_reflink 159 = .ok (.goto 4, 3) := by decide +kernel
theorem dX7_reflink_162 : decode cX7_reflink 162 = .ok (.iconst 0, 1) := by decide +kernel
theorem dX7_reflink_163 : decode cX7_reflink 163 = .ok (.iadd, 1) := by decide +kernel
theorem dX7_reflink_164 : decode cX7_reflink 164 = .ok (.istore 8, 2) := by decide +kernel
theorem dX7_reflink_166 : decode cX7_reflink 166 = .ok (.aload_n 0, 1) := by decide +kernel
theorem dX7_reflink_167 : decode cX7_reflink 167 = .ok (.getfield 7, 3) := by decide +kernel
theorem dX7_reflink_170 : decode cX7_reflink 170 = .ok (.iload 10, 2) := by decide +kernel
theorem dX7_reflink_172 : decode cX7_reflink 172 = .ok (.aload_n 0, 1) := by decide +kernel
theorem dX7_reflink_173 : decode cX7_reflink 173 = .ok (.getfield 19, 3) := by decide +kernel
theorem dX7_reflink_176 : decode cX7_reflink 176 = .ok (.iload 9, 2) := by decide +kernel
theorem dX7_reflink_178 : decode cX7_reflink 178 = .ok (.iaload, 1) := by decide +kernel
theorem dX7_reflink_179 : decode cX7_reflink 179 = .ok (.iastore, 1) := by decide +kernel
theorem dX7_reflink_180 : decode cX7_reflink 180 = .ok (.iinc 9 1, 3) := by decide +kernel
theorem dX7_reflink_183 : decode cX7_reflink 183 = .ok (.goto (-64), 3) := by decide +kernel
theorem dX7_reflink_186 : decode cX7_reflink 186 = .ok (.aload_n 0, 1) := by decide +kernel
theorem dX7_reflink_187 : decode cX7_reflink 187 = .ok (.invokevirtual 56, 3) := by decide +kernel
theorem dX7_reflink_190 : decode cX7_reflink 190 = .ok (.ifCond .ge 7, 3) := by decide +kernel
theorem dX7_reflink_193 : decode cX7_reflink 193 = .ok (.iconst 0, 1) := by decide +kernel
theorem dX7_reflink_194 : decode cX7_reflink 194 = .ok (.goto 5, 3) := by decide +kernel
theorem dX7_reflink_197 : decode cX7_reflink 197 = .ok (.iload 8, 2) := by decide +kernel
theorem dX7_reflink_199 : decode cX7_reflink 199 = .ok (.ireturn, 1) := by decide +kernel
theorem dX7_isAllocated_0 : decode cX7_isAllocated 0 = .ok (.aload_n 0, 1) := by decide +kernel
theorem dX7_isAllocated_1 : decode cX7_isAllocated 1 = .ok (.getfield 7, 3) := by decide +kernel
theorem dX7_isAllocated_4 : decode cX7_isAllocated 4 = .ok (.sipush 2814, 3) := by decide +kernel
theorem dX7_isAllocated_7 : decode cX7_isAllocated 7 = .ok (.iload_n 1, 1) := by decide +kernel
theorem dX7_isAllocated_8 : decode cX7_isAllocated 8 = .ok (.iadd, 1) := by decide +kernel
theorem dX7_isAllocated_9 : decode cX7_isAllocated 9 = .ok (.iaload, 1) := by decide +kernel
theorem dX7_isAllocated_10 : decode cX7_isAllocated 10 = .ok (.ifCond .le 7, 3) := by decide +kernel
theorem dX7_isAllocated_13 : decode cX7_isAllocated 13 = .ok (.iconst 1, 1) := by decide +kernel
theorem dX7_isAllocated_14 : decode cX7_isAllocated 14 = .ok (.goto 4, 3) := by decide +kernel
theorem dX7_isAllocated_17 : decode cX7_isAllocated 17 = .ok (.iconst 0, 1) := by decide +kernel
theorem dX7_isAllocated_18 : decode cX7_isAllocated 18 = .ok (.ireturn, 1) := by decide +kernel
theorem dX7_isLogged_0 : decode cX7_isLogged 0 = .ok (.aload_n 0, 1) := by decide +kernel
theorem dX7_isLogged_1 : decode cX7_isLogged 1 = .ok (.getfield 7, 3) := by decide +kernel
theorem dX7_isLogged_4 : decode cX7_isLogged 4 = .ok (.sipush 2942, 3) := by decide +kernel
theorem dX7_isLogged_7 : decode cX7_isLogged 7 = .ok (.iload_n 1, 1) := by decide +kernel
theorem dX7_isLogged_8 : decode cX7_isLogged 8 = .ok (.iadd, 1) := by decide +kernel
theorem dX7_isLogged_9 : decode cX7_isLogged 9 = .ok (.iaload, 1) := by decide +kernel
theorem dX7_isLogged_10 : decode cX7_isLogged 10 = .ok (.iconst 1, 1) := by decide +kernel
theorem dX7_isLogged_11 : decode cX7_isLogged 11 = .ok (.if_icmp .ne 7, 3) := by decide +kernel
theorem dX7_isLogged_14 : decode cX7_isLogged 14 = .ok (.iconst 1, 1) := by decide +kernel
theorem dX7_isLogged_15 : decode cX7_isLogged 15 = .ok (.goto 4, 3) := by decide +kernel
theorem dX7_isLogged_18 : decode cX7_isLogged 18 = .ok (.iconst 0, 1) := by decide +kernel
theorem dX7_isLogged_19 : decode cX7_isLogged 19 = .ok (.istore_n 3, 1) := by decide +kernel
theorem dX7_isLogged_20 : decode cX7_isLogged 20 = .ok (.iload_n 2, 1) := by decide +kernel
theorem dX7_isLogged_21 : decode cX7_isLogged 21 = .ok (.iconst 2, 1) := by decide +kernel
theorem dX7_isLogged_22 : decode cX7_isLogged 22 = .ok (.if_icmp .ne 11, 3) := by decide +kernel
theorem dX7_isLogged_25 : decode cX7_isLogged 25 = .ok (.aload_n 0, 1) := by decide +kernel
theorem dX7_isLogged_26 : decode cX7_isLogged 26 = .ok (.iload_n 1, 1) := by decide +kernel
theorem dX7_isLogged_27 : decode cX7_isLogged 27 = .ok (.invokevirtual 70, 3) := by decide +kernel
theorem dX7_isLogged_30 : decode cX7_isLogged 30 = .ok (.goto 45, 3) := by decide +kernel
theorem dX7_isLogged_33 : decode cX7_isLogged 33 = .ok (.iload_n 2, 1) := by decide +kernel
theorem dX7_isLogged_34 : decode cX7_isLogged 34 = .ok (.iconst 1, 1) := by decide +kernel
theorem dX7_isLogged_35 : decode cX7_isLogged 35 = .ok (.if_icmp .ne 23, 3) := by decide +kernel
theorem dX7_isLogged_38 : decode cX7_isLogged 38 = .ok (.aload_n 0, 1) := by decide +kernel
theorem dX7_isLogged_39 : decode cX7_isLogged 39 = .ok (.iload_n 1, 1) := by decide +kernel
theorem dX7_isLogged_40 : decode cX7_isLogged 40 = .ok (.invokevirtual 70, 3) := by decide +kernel
theorem dX7_isLogged_43 : decode cX7_isLogged 43 = .ok (.ifCond .eq 11, 3) := by decide +kernel
theorem dX7_isLogged_46 : decode cX7_isLogged 46 = .ok (.iload_n 3, 1) := by decide +kernel
theorem dX7_isLogged_47 : decode cX7_isLogged 47 = .ok (.ifCond .ne 7, 3) := by decide +kernel
theorem dX7_isLogged_50 : decode cX7_isLogged 50 = .ok (.iconst 1, 1) := by decide +kernel
theorem dX7_isLogged_51 : decode cX7_isLogged 51 = .ok (.goto 24, 3) := by decide +kernel
theorem dX7_isLogged_54 : decode cX7_isLogged 54 = .ok (.iconst 0, 1) := by decide +kernel
theorem dX7_isLogged_55 : decode cX7_isLogged 55 = .ok (.goto 20, 3) := by decide +kernel
theorem dX7_isLogged_58 : decode cX7_isLogged 58 = .ok (.aload_n 0, 1) := by decide +kernel
theorem dX7_isLogged_59 : decode cX7_isLogged 59 = .ok (.iload_n 1, 1) := by decide +kernel
theorem dX7_isLogged_60 : decode cX7_isLogged 60 = .ok (.invokevirtual 70, 3) := by decide +kernel
theorem dX7_isLogged_63 : decode cX7_isLogged 63 = .ok (.ifCond .ne 11, 3) := by decide +kernel
theorem dX7_isLogged_66 : decode cX7_isLogged 66 = .ok (.iload_n 3, 1) := by decide +kernel
theorem dX7_isLogged_67 : decode cX7_isLogged 67 = .ok (.ifCond .eq 7, 3) := by decide +kernel
theorem dX7_isLogged_70 : decode cX7_isLogged 70 = .ok (.iconst 1, 1) := by decide +kernel
theorem dX7_isLogged_71 : decode cX7_isLogged 71 = .ok (.goto 4, 3) := by decide +kernel
theorem dX7_isLogged_74 : decode cX7_isLogged 74 = .ok (.iconst 0, 1) := by decide +kernel
theorem dX7_isLogged_75 : decode cX7_isLogged 75 = .ok (.ireturn, 1) := by decide +kernel
theorem dX7_runs_0 : decode cX7_runs 0 = .ok (.iconst 0, 1) := by decide +kernel
theorem dX7_runs_1 : decode cX7_runs 1 = .ok (.istore 4, 2) := by decide +kernel
theorem dX7_runs_3 : decode cX7_runs 3 = .ok (.bipush 32, 2) := by decide +kernel
theorem dX7_runs_5 : decode cX7_runs 5 = .ok (.iload_n 1, 1) := by decide +kernel
theorem dX7_runs_6 : decode cX7_runs 6 = .ok (.imul, 1) := by decide +kernel
theorem dX7_runs_7 : decode cX7_runs 7 = .ok (.bipush 32, 2) := by decide +kernel
theorem dX7_runs_9 : decode cX7_runs 9 = .ok (.iadd, 1) := by decide +kernel
theorem dX7_runs_10 : decode cX7_runs 10 = .ok (.istore 5, 2) := by decide +kernel
theorem dX7_runs_12 : decode cX7_runs 12 = .ok (.bipush 32, 2) := by decide +kernel
theorem dX7_runs_14 : decode cX7_runs 14 = .ok (.iload_n 1, 1) := by decide +kernel
theorem dX7_runs_15 : decode cX7_runs 15 = .ok (.imul, 1) := by decide +kernel
theorem dX7_runs_16 : decode cX7_runs 16 = .ok (.istore 6, 2) := by decide +kernel
theorem dX7_runs_18 : decode cX7_runs 18 = .ok (.iload 6, 2) := by decide +kernel
theorem dX7_runs_20 : decode cX7_runs 20 = .ok (.iload 5, 2) := by decide +kernel
theorem dX7_runs_22 : decode cX7_runs 22 = .ok (.if_icmp .ge 131, 3) := by decide +kernel
theorem dX7_runs_25 : decode cX7_runs 25 = .ok (.iconst 0, 1) := by decide +kernel
theorem dX7_runs_26 : decode cX7_runs 26 = .ok (.istore 7, 2) := by decide +kernel
theorem dX7_runs_28 : decode cX7_runs 28 = .ok (.iload 6, 2) := by decide +kernel
theorem dX7_runs_30 : decode cX7_runs 30 = .ok (.iload 7, 2) := by decide +kernel
theorem dX7_runs_32 : decode cX7_runs 32 = .ok (.iadd, 1) := by decide +kernel
theorem dX7_runs_33 : decode cX7_runs 33 = .ok (.iload 5, 2) := by decide +kernel
theorem dX7_runs_35 : decode cX7_runs 35 = .ok (.if_icmp .ge 22, 3) := by decide +kernel
theorem dX7_runs_38 : decode cX7_runs 38 = .ok (.aload_n 0, 1) := by decide +kernel
theorem dX7_runs_39 : decode cX7_runs 39 = .ok (.iload 6, 2) := by decide +kernel
theorem dX7_runs_41 : decode cX7_runs 41 = .ok (.iload 7, 2) := by decide +kernel
theorem dX7_runs_43 : decode cX7_runs 43 = .ok (.iadd, 1) := by decide +kernel
theorem dX7_runs_44 : decode cX7_runs 44 = .ok (.iload_n 2, 1) := by decide +kernel
theorem dX7_runs_45 : decode cX7_runs 45 = .ok (.invokevirtual 73, 3) := by decide +kernel
theorem dX7_runs_48 : decode cX7_runs 48 = .ok (.ifCond .eq 9, 3) := by decide +kernel
theorem dX7_runs_51 : decode cX7_runs 51 = .ok (.iinc 7 1, 3) := by decide +kernel
theorem dX7_runs_54 : decode cX7_runs 54 = .ok (.goto (-26), 3) := by decide +kernel
theorem dX7_runs_57 : decode cX7_runs 57 = .ok (.iload 7, 2) := by decide +kernel
theorem dX7_runs_59 : decode cX7_runs 59 = .ok (.ifCond .le 67, 3) := by decide +kernel
theorem dX7_runs_62 : decode cX7_runs 62 = .ok (.iload_n 3, 1) := by decide +kernel
theorem dX7_runs_63 : decode cX7_runs 63 = .ok (.ifCond .eq 63, 3) := by decide +kernel
theorem dX7_runs_66 : decode cX7_runs 66 = .ok (.bipush 100, 2) := by decide +kernel
theorem dX7_runs_68 : decode cX7_runs 68 = .ok (.iload 6, 2) := by decide +kernel
theorem dX7_runs_70 : decode cX7_runs 70 = .ok (.imul, 1) := by decide +kernel
theorem dX7_runs_71 : decode cX7_runs 71 = .ok (.iload 7, 2) := by decide +kernel
theorem dX7_runs_73 : decode cX7_runs 73 = .ok (.iadd, 1) := by decide +kernel
theorem dX7_runs_74 : decode cX7_runs 74 = .ok (.istore 8, 2) := by decide +kernel
theorem dX7_runs_76 : decode cX7_runs 76 = .ok (.aload_n 0, 1) := by decide +kernel
theorem dX7_runs_77 : decode cX7_runs 77 = .ok (.getfield 7, 3) := by decide +kernel
theorem dX7_runs_80 : decode cX7_runs 80 = .ok (.sipush 3070, 3) := by decide +kernel
theorem dX7_runs_83 : decode cX7_runs 83 = .ok (.bipush 80, 2) := by decide +kernel
theorem dX7_runs_85 : decode cX7_runs 85 = .ok (.iload_n 1, 1) := by decide +kernel
theorem dX7_runs_86 : decode cX7_runs 86 = .ok (.imul, 1) := by decide +kernel
theorem dX7_runs_87 : decode cX7_runs 87 = .ok (.iadd, 1) := by decide +kernel
theorem dX7_runs_88 : decode cX7_runs 88 = .ok (.aload_n 0, 1) := by decide +kernel
theorem dX7_runs_89 : decode cX7_runs 89 = .ok (.getfield 7, 3) := by decide +kernel
theorem dX7_runs_92 : decode cX7_runs 92 = .ok (.sipush 3390, 3) := by decide +kernel
theorem dX7_runs_95 : decode cX7_runs 95 = .ok (.iload_n 1, 1) := by decide +kernel
theorem dX7_runs_96 : decode cX7_runs 96 = .ok (.iadd, 1) := by decide +kernel
theorem dX7_runs_97 : decode cX7_runs 97 = .ok (.iaload, 1) := by decide +kernel
theorem dX7_runs_98 : decode cX7_runs 98 = .ok (.iadd, 1) := by decide +kernel
theorem dX7_runs_99 : decode cX7_runs 99 = .ok (.iload_n 2, 1) := by decide +kernel
theorem dX7_runs_100 : decode cX7_runs 100 = .ok (.ifCond .ne 9, 3) := by decide +kernel
theorem dX7_runs_103 : decode cX7_runs 103 = .ok (.iload 8, 2) := by decide +kernel
theorem dX7_runs_105 : decode cX7_runs 105 = .ok (.ineg, 1) := by decide +kernel
theorem dX7_runs_106 : decode cX7_runs 106 = .ok (.goto 5, 3) := by decide +kernel
theorem dX7_runs_109 : decode cX7_runs 109 = .ok (.iload 8, 2) := by decide +kernel
theorem dX7_runs_111 : decode cX7_runs 111 = .ok (.iastore, 1) := by decide +kernel
theorem dX7_runs_112 : decode cX7_runs 112 = .ok (.aload_n 0, 1) := by decide +kernel
theorem dX7_runs_113 : decode cX7_runs 113 = .ok (.getfield 7, 3) := by decide +kernel
theorem dX7_runs_116 : decode cX7_runs 116 = .ok (.sipush 3390, 3) := by decide +kernel
theorem dX7_runs_119 : decode cX7_runs 119 = .ok (.iload_n 1, 1) := by decide +kernel
theorem dX7_runs_120 : decode cX7_runs 120 = .ok (.iadd, 1) := by decide +kernel
theorem dX7_runs_121 : decode cX7_runs 121 = .ok (.dup2, 1) := by decide +kernel
theorem dX7_runs_122 : decode cX7_runs 122 = .ok (.iaload, 1) := by decide +kernel
theorem dX7_runs_123 : decode cX7_runs 123 = .ok (.iconst 1, 1) := by decide +kernel
theorem dX7_runs_124 : decode cX7_runs 124 = .ok (.iadd, 1) := by decide +kernel
theorem dX7_runs_125 : decode cX7_runs 125 = .ok (.iastore, 1) := by decide +kernel
theorem dX7_runs_126 : decode cX7_runs 126 = .ok (.iload 4, 2) := by decide +kernel
theorem dX7_runs_128 : decode cX7_runs 128 = .ok (.iload 7, 2) := by decide +kernel
theorem dX7_runs_130 : decode cX7_runs 130 = .ok (.ifCond .le 7, 3) := by decide +kernel
theorem dX7_runs_133 : decode cX7_runs 133 = .ok (.iconst 1, 1) := by decide +kernel
theorem dX7_runs_134 : decode cX7_runs 134 = .ok (.goto 4, 3) := by decide +kernel
theorem dX7_runs_137 : decode cX7_runs 137 = .ok (.iconst 0, 1) := by decide +kernel
theorem dX7_runs_138 : decode cX7_runs 138 = .ok (.iadd, 1) := by decide +kernel
theorem dX7_runs_139 : decode cX7_runs 139 = .ok (.istore 4, 2) := by decide +kernel
theorem dX7_runs_141 : decode cX7_runs 141 = .ok (.iload 6, 2) := by decide +kernel
theorem dX7_runs_143 : decode cX7_runs 143 = .ok (.iload 7, 2) := by decide +kernel
theorem dX7_runs_145 : decode cX7_runs 145 = .ok (.iconst 1, 1) := by decide +kernel
theorem dX7_runs_146 : decode cX7_runs 146 = .ok (.iadd, 1) := by decide +kernel
theorem dX7_runs_147 : decode cX7_runs 147 = .ok (.iadd, 1) := by decide +kernel
theorem dX7_runs_148 : decode cX7_runs 148 = .ok (.istore 6, 2) := by decide +kernel
theorem dX7_runs_150 : decode cX7_runs 150 = .ok (.goto (-132), 3) := by decide +kernel
theorem dX7_runs_153 : decode cX7_runs 153 = .ok (.iload 4, 2) := by decide +kernel
theorem dX7_runs_155 : decode cX7_runs 155 = .ok (.ireturn, 1) := by decide +kernel
theorem dX7_commits_0 : decode cX7_commits 0 = .ok (.iconst 0, 1) := by decide +kernel
theorem dX7_commits_1 : decode cX7_commits 1 = .ok (.istore_n 1, 1) := by decide +kernel
theorem dX7_commits_2 : decode cX7_commits 2 = .ok (.iload_n 1, 1) := by decide +kernel
theorem dX7_commits_3 : decode cX7_commits 3 = .ok (.iconst 4, 1) := by decide +kernel
theorem dX7_commits_4 : decode cX7_commits 4 = .ok (.if_icmp .ge 96, 3) := by decide +kernel
theorem dX7_commits_7 : decode cX7_commits 7 = .ok (.aload_n 0, 1) := by decide +kernel
theorem dX7_commits_8 : decode cX7_commits 8 = .ok (.iload_n 1, 1) := by decide +kernel
theorem dX7_commits_9 : decode cX7_commits 9 = .ok (.iconst 1, 1) := by decide +kernel
theorem dX7_commits_10 : decode cX7_commits 10 = .ok (.iconst 1, 1) := by decide +kernel
theorem dX7_commits_11 : decode cX7_commits 11 = .ok (.invokevirtual 76, 3) := by decide +kernel
theorem dX7_commits_14 : decode cX7_commits 14 = .ok (.istore_n 2, 1) := by decide +kernel
theorem dX7_commits_15 : decode cX7_commits 15 = .ok (.iload_n 2, 1) := by decide +kernel
theorem dX7_commits_16 : decode cX7_commits 16 = .ok (.aload_n 0, 1) := by decide +kernel
theorem dX7_commits_17 : decode cX7_commits 17 = .ok (.iload_n 1, 1) := by decide +kernel
theorem dX7_commits_18 : decode cX7_commits 18 = .ok (.iconst 0, 1) := by decide +kernel
theorem dX7_commits_19 : decode cX7_commits 19 = .ok (.iconst 1, 1) := by decide +kernel
theorem dX7_commits_20 : decode cX7_commits 20 = .ok (.invokevirtual 76, 3) := by decide +kernel
theorem dX7_commits_23 : decode cX7_commits 23 = .ok (.iadd, 1) := by decide +kernel
theorem dX7_commits_24 : decode cX7_commits 24 = .ok (.istore_n 2, 1) := by decide +kernel
theorem dX7_commits_25 : decode cX7_commits 25 = .ok (.iload_n 2, 1) := by decide +kernel
theorem dX7_commits_26 : decode cX7_commits 26 = .ok (.ifCond .lt 31, 3) := by decide +kernel
theorem dX7_commits_29 : decode cX7_commits 29 = .ok (.aload_n 0, 1) := by decide +kernel
theorem dX7_commits_30 : decode cX7_commits 30 = .ok (.getfield 7, 3) := by decide +kernel
theorem dX7_commits_33 : decode cX7_commits 33 = .ok (.sipush 3390, 3) := by decide +kernel
theorem dX7_commits_36 : decode cX7_commits 36 = .ok (.iload_n 1, 1) := by decide +kernel
theorem dX7_commits_37 : decode cX7_commits 37 = .ok (.iadd, 1) := by decide +kernel
theorem dX7_commits_38 : decode cX7_commits 38 = .ok (.iaload, 1) := by decide +kernel
theorem dX7_commits_39 : decode cX7_commits 39 = .ok (.iconst 2, 1) := by decide +kernel
theorem dX7_commits_40 : decode cX7_commits 40 = .ok (.aload_n 0, 1) := by decide +kernel
theorem dX7_commits_41 : decode cX7_commits 41 = .ok (.iload_n 1, 1) := by decide +kernel
theorem dX7_commits_42 : decode cX7_commits 42 = .ok (.iconst 2, 1) := by decide +kernel
theorem dX7_commits_43 : decode cX7_commits 43 = .ok (.iconst 0, 1) := by decide +kernel
theorem dX7_commits_44 : decode cX7_commits 44 = .ok (.invokevirtual 76, 3) := by decide +kernel
theorem dX7_commits_47 : decode cX7_commits 47 = .ok (.imul, 1) := by decide +kernel
theorem dX7_commits_48 : decode cX7_commits 48 = .ok (.iconst 2, 1) := by decide +kernel
theorem dX7_commits_49 : decode cX7_commits 49 = .ok (.iadd, 1) := by decide +kernel
theorem dX7_commits_50 : decode cX7_commits 50 = .ok (.if_icmp .le 7, 3) := by decide +kernel
theorem dX7_commits_53 : decode cX7_commits 53 = .ok (.iconst 1, 1) := by decide +kernel
theorem dX7_commits_54 : decode cX7_commits 54 = .ok (.goto 4, 3) := by decide +kernel
theorem dX7_commits_57 : decode cX7_commits 57 = .ok (.iconst 0, 1) := by decide +kernel
theorem dX7_commits_58 : decode cX7_commits 58 = .ok (.istore_n 3, 1) := by decide +kernel
theorem dX7_commits_59 : decode cX7_commits 59 = .ok (.iload_n 3, 1) := by decide +kernel
theorem dX7_commits_60 : decode cX7_commits 60 = .ok (.ifCond .eq 34, 3) := by decide +kernel
theorem dX7_commits_63 : decode cX7_commits 63 = .ok (.aload_n 0, 1) := by decide +kernel
theorem dX7_commits_64 : decode cX7_commits 64 = .ok (.getfield 7, 3) := by decide +kernel
theorem dX7_commits_67 : decode cX7_commits 67 = .ok (.sipush 3390, 3) := by decide +kernel
theorem dX7_commits_70 : decode cX7_commits 70 = .ok (.iload_n 1, 1) := by decide +kernel
theorem dX7_commits_71 : decode cX7_commits 71 = .ok (.iadd, 1) := by decide +kernel
theorem dX7_commits_72 : decode cX7_commits 72 = .ok (.iconst 0, 1) := by decide +kernel
theorem dX7_commits_73 : decode cX7_commits 73 = .ok (.iastore, 1) := by decide +kernel
theorem dX7_commits_74 : decode cX7_commits 74 = .ok (.aload_n 0, 1) := by decide +kernel
theorem dX7_commits_75 : decode cX7_commits 75 = .ok (.iload_n 1, 1) := by decide +kernel
theorem dX7_commits_76 : decode cX7_commits 76 = .ok (.iconst 2, 1) := by decide +kernel
theorem dX7_commits_77 : decode cX7_commits 77 = .ok (.iconst 1, 1) := by decide +kernel
theorem dX7_commits_78 : decode cX7_commits 78 = .ok (.invokevirtual 76, 3) := by decide +kernel
theorem dX7_commits_81 : decode cX7_commits 81 = .ok (.istore_n 2, 1) := by decide +kernel
theorem dX7_commits_82 : decode cX7_commits 82 = .ok (.aload_n 0, 1) := by decide +kernel
theorem dX7_commits_83 : decode cX7_commits 83 = .ok (.getfield 7, 3) := by decide +kernel
theorem dX7_commits_86 : decode cX7_commits 86 = .ok (.sipush 3396, 3) := by decide +kernel
theorem dX7_commits_89 : decode cX7_commits 89 = .ok (.dup2, 1) := by decide +kernel
theorem dX7_commits_90 : decode cX7_commits 90 = .ok (.iaload, 1) := by decide +kernel
theorem dX7_commits_91 : decode cX7_commits 91 = .ok (.iconst 1, 1) := by decide +kernel
theorem dX7_commits_92 : decode cX7_commits 92 = .ok (.iadd, 1) := by decide +kernel
theorem dX7_commits_93 : decode cX7_commits 93 = .ok (.iastore, 1) := by decide +kernel
theorem dX7_commits_94 : decode cX7_commits 94 = .ok (.iinc 1 1, 3) := by decide +kernel
theorem dX7_commits_97 : decode cX7_commits 97 = .ok (.goto (-95), 3) := by decide +kernel
theorem dX7_commits_100 : decode cX7_commits 100 = .ok (.iconst 0, 1) := by decide +kernel
theorem dX7_commits_101 : decode cX7_commits 101 = .ok (.istore_n 1, 1) := by decide +kernel
theorem dX7_commits_102 : decode cX7_commits 102 = .ok (.iload_n 1, 1) := by decide +kernel
theorem dX7_commits_103 : decode cX7_commits 103 = .ok (.sipush 128, 3) := by decide +kernel
theorem dX7_commits_106 : decode cX7_commits 106 = .ok (.if_icmp .ge 43, 3) := by decide +kernel
theorem dX7_commits_109 : decode cX7_commits 109 = .ok (.aload_n 0, 1) := by decide +kernel
theorem dX7_commits_110 : decode cX7_commits 110 = .ok (.getfield 7, 3) := by decide +kernel
theorem dX7_commits_113 : decode cX7_commits 113 = .ok (.sipush 2686, 3) := by decide +kernel
theorem dX7_commits_116 : decode cX7_commits 116 = .ok (.iload_n 1, 1) := by decide +kernel
theorem dX7_commits_117 : decode cX7_commits 117 = .ok (.iadd, 1) := by decide +kernel
theorem dX7_commits_118 : decode cX7_commits 118 = .ok (.iconst 0, 1) := by decide +kernel
theorem dX7_commits_119 : decode cX7_commits 119 = .ok (.iastore, 1) := by decide +kernel
theorem dX7_commits_120 : decode cX7_commits 120 = .ok (.aload_n 0, 1) := by decide +kernel
theorem dX7_commits_121 : decode cX7_commits 121 = .ok (.getfield 7, 3) := by decide +kernel
theorem dX7_commits_124 : decode cX7_commits 124 = .ok (.sipush 2942, 3) := by decide +kernel
theorem dX7_commits_127 : decode cX7_commits 127 = .ok (.iload_n 1, 1) := by decide +kernel
theorem dX7_commits_128 : decode cX7_commits 128 = .ok (.iadd, 1) := by decide +kernel
theorem dX7_commits_129 : decode cX7_commits 129 = .ok (.aload_n 0, 1) := by decide +kernel
theorem dX7_commits_130 : decode cX7_commits 130 = .ok (.iload_n 1, 1) := by decide +kernel
theorem dX7_commits_131 : decode cX7_commits 131 = .ok (.invokevirtual 70, 3) := by decide +kernel
theorem dX7_commits_134 : decode cX7_commits 134 = .ok (.ifCond .eq 7, 3) := by decide +kernel
theorem dX7_commits_137 : decode cX7_commits 137 = .ok (.iconst 1, 1) := by decide +kernel
theorem dX7_commits_138 : decode cX7_commits 138 = .ok (.goto 4, 3) := by decide +kernel
theorem dX7_commits_141 : decode cX7_commits 141 = .ok (.iconst 0, 1) := by decide +kernel
theorem dX7_commits_142 : decode cX7_commits 142 = .ok (.iastore, 1) := by decide +kernel
theorem dX7_commits_143 : decode cX7_commits 143 = .ok (.iinc 1 1, 3) := by decide +kernel
theorem dX7_commits_146 : decode cX7_commits 146 = .ok (.goto (-44), 3) := by decide +kernel
theorem dX7_commits_149 : decode cX7_commits 149 = .ok (.aload_n 0, 1) := by decide +kernel
theorem dX7_commits_150 : decode cX7_commits 150 = .ok (.getfield 7, 3) := by decide +kernel
theorem dX7_commits_153 : decode cX7_commits 153 = .ok (.sipush 3395, 3) := by decide +kernel
theorem dX7_commits_156 : decode cX7_commits 156 = .ok (.dup2, 1) := by decide +kernel
theorem dX7_commits_157 : decode cX7_commits 157 = .ok (.iaload, 1) := by decide +kernel
theorem dX7_commits_158 : decode cX7_commits 158 = .ok (.iconst 1, 1) := by decide +kernel
theorem dX7_commits_159 : decode cX7_commits 159 = .ok (.iadd, 1) := by decide +kernel
theorem dX7_commits_160 : decode cX7_commits 160 = .ok (.iastore, 1) := by decide +kernel
theorem dX7_commits_161 : decode cX7_commits 161 = .ok (.iconst 0, 1) := by decide +kernel
theorem dX7_commits_162 : decode cX7_commits 162 = .ok (.istore_n 1, 1) := by decide +kernel
theorem dX7_commits_163 : decode cX7_commits 163 = .ok (.iload_n 1, 1) := by decide +kernel
theorem dX7_commits_164 : decode cX7_commits 164 = .ok (.sipush 3397, 3) := by decide +kernel
theorem dX7_commits_167 : decode cX7_commits 167 = .ok (.if_icmp .ge 21, 3) := by decide +kernel
theorem dX7_commits_170 : decode cX7_commits 170 = .ok (.aload_n 0, 1) := by decide +kernel
theorem dX7_commits_171 : decode cX7_commits 171 = .ok (.getfield 13, 3) := by decide +kernel
theorem dX7_commits_174 : decode cX7_commits 174 = .ok (.iload_n 1, 1) := by decide +kernel
theorem dX7_commits_175 : decode cX7_commits 175 = .ok (.aload_n 0, 1) := by decide +kernel
theorem dX7_commits_176 : decode cX7_commits 176 = .ok (.getfield 7, 3) := by decide +kernel
theorem dX7_commits_179 : decode cX7_commits 179 = .ok (.iload_n 1, 1) := by decide +kernel
theorem dX7_commits_180 : decode cX7_commits 180 = .ok (.iaload, 1) := by decide +kernel
theorem dX7_commits_181 : decode cX7_commits 181 = .ok (.iastore, 1) := by decide +kernel
theorem dX7_commits_182 : decode cX7_commits 182 = .ok (.iinc 1 1, 3) := by decide +kernel
theorem dX7_commits_185 : decode cX7_commits 185 = .ok (.goto (-22), 3) := by decide +kernel
theorem dX7_commits_188 : decode cX7_commits 188 = .ok (.aload_n 0, 1) := by decide +kernel
theorem dX7_commits_189 : decode cX7_commits 189 = .ok (.getfield 7, 3) := by decide +kernel
theorem dX7_commits_192 : decode cX7_commits 192 = .ok (.sipush 3395, 3) := by decide +kernel
theorem dX7_commits_195 : decode cX7_commits 195 = .ok (.iaload, 1) := by decide +kernel
theorem dX7_commits_196 : decode cX7_commits 196 = .ok (.iconst 1, 1) := by decide +kernel
theorem dX7_commits_197 : decode cX7_commits 197 = .ok (.isub, 1) := by decide +kernel
theorem dX7_commits_198 : decode cX7_commits 198 = .ok (.ireturn, 1) := by decide +kernel
theorem dX7_commit_0 : decode cX7_commit 0 = .ok (.aload_n 0, 1) := by decide +kernel
theorem dX7_commit_1 : decode cX7_commit 1 = .ok (.iconst 0, 1) := by decide +kernel
theorem dX7_commit_2 : decode cX7_commit 2 = .ok (.putfield 22, 3) := by decide +kernel
theorem dX7_commit_5 : decode cX7_commit 5 = .ok (.aload_n 0, 1) := by decide +kernel
theorem dX7_commit_6 : decode cX7_commit 6 = .ok (.invokevirtual 80, 3) := by decide +kernel
theorem dX7_commit_9 : decode cX7_commit 9 = .ok (.ireturn, 1) := by decide +kernel
theorem dX7_crash_0 : decode cX7_crash 0 = .ok (.aload_n 0, 1) := by decide +kernel
theorem dX7_crash_1 : decode cX7_crash 1 = .ok (.iconst 0, 1) := by decide +kernel
theorem dX7_crash_2 : decode cX7_crash 2 = .ok (.putfield 22, 3) := by decide +kernel
theorem dX7_crash_5 : decode cX7_crash 5 = .ok (.iconst 0, 1) := by decide +kernel
theorem dX7_crash_6 : decode cX7_crash 6 = .ok (.istore_n 1, 1) := by decide +kernel
theorem dX7_crash_7 : decode cX7_crash 7 = .ok (.iload_n 1, 1) := by decide +kernel
theorem dX7_crash_8 : decode cX7_crash 8 = .ok (.sipush 3397, 3) := by decide +kernel
theorem dX7_crash_11 : decode cX7_crash 11 = .ok (.if_icmp .ge 21, 3) := by decide +kernel
theorem dX7_crash_14 : decode cX7_crash 14 = .ok (.aload_n 0, 1) := by decide +kernel
theorem dX7_crash_15 : decode cX7_crash 15 = .ok (.getfield 7, 3) := by decide +kernel
theorem dX7_crash_18 : decode cX7_crash 18 = .ok (.iload_n 1, 1) := by decide +kernel
theorem dX7_crash_19 : decode cX7_crash 19 = .ok (.aload_n 0, 1) := by decide +kernel
theorem dX7_crash_20 : decode cX7_crash 20 = .ok (.getfield 13, 3) := by decide +kernel
theorem dX7_crash_23 : decode cX7_crash 23 = .ok (.iload_n 1, 1) := by decide +kernel
theorem dX7_crash_24 : decode cX7_crash 24 = .ok (.iaload, 1) := by decide +kernel
theorem dX7_crash_25 : decode cX7_crash 25 = .ok (.iastore, 1) := by decide +kernel
theorem dX7_crash_26 : decode cX7_crash 26 = .ok (.iinc 1 1, 3) := by decide +kernel
theorem dX7_crash_29 : decode cX7_crash 29 = .ok (.goto (-22), 3) := by decide +kernel
theorem dX7_crash_32 : decode cX7_crash 32 = .ok (.aload_n 0, 1) := by decide +kernel
theorem dX7_crash_33 : decode cX7_crash 33 = .ok (.getfield 7, 3) := by decide +kernel
theorem dX7_crash_36 : decode cX7_crash 36 = .ok (.sipush 3395, 3) := by decide +kernel
theorem dX7_crash_39 : decode cX7_crash 39 = .ok (.iaload, 1) := by decide +kernel
theorem dX7_crash_40 : decode cX7_crash 40 = .ok (.ireturn, 1) := by decide +kernel
theorem dX7_transaction_0 : decode cX7_transaction 0 = .ok (.aload_n 0, 1) := by decide +kernel
theorem dX7_transaction_1 : decode cX7_transaction 1 = .ok (.iconst 0, 1) := by decide +kernel
theorem dX7_transaction_2 : decode cX7_transaction 2 = .ok (.putfield 22, 3) := by decide +kernel
theorem dX7_transaction_5 : decode cX7_transaction 5 = .ok (.aload_n 0, 1) := by decide +kernel
theorem dX7_transaction_6 : decode cX7_transaction 6 = .ok (.getfield 7, 3) := by decide +kernel
theorem dX7_transaction_9 : decode cX7_transaction 9 = .ok (.sipush 3395, 3) := by decide +kernel
theorem dX7_transaction_12 : decode cX7_transaction 12 = .ok (.iaload, 1) := by decide +kernel
theorem dX7_transaction_13 : decode cX7_transaction 13 = .ok (.ireturn, 1) := by decide +kernel
theorem dX7_snapshot_0 : decode cX7_snapshot 0 = .ok (.iconst (-1), 1) := by decide +kernel
theorem dX7_snapshot_1 : decode cX7_snapshot 1 = .ok (.istore_n 2, 1) := by decide +kernel
theorem dX7_snapshot_2 : decode cX7_snapshot 2 = .ok (.bipush 11, 2) := by decide +kernel
theorem dX7_snapshot_4 : decode cX7_snapshot 4 = .ok (.istore_n 3, 1) := by decide +kernel
theorem dX7_snapshot_5 : decode cX7_snapshot 5 = .ok (.iload_n 3, 1) := by decide +kernel
theorem dX7_snapshot_6 : decode cX7_snapshot 6 = .ok (.ifCond .lt 28, 3) := by decide +kernel
theorem dX7_snapshot_9 : decode cX7_snapshot 9 = .ok (.aload_n 0, 1) := by decide +kernel
end
section
theorem dX7_snapshot_10 : decode cX7_snapshot 10 = .ok (.getfield 7, 3) := by decide +kernel
theorem dX7_snapshot_13 : decode cX7_snapshot 13 = .ok (.sipush 2394, 3) := by decide +kernel
theorem dX7_snapshot_16 : decode cX7_snapshot 16 = .ok (.iload_n 3, 1) := by decide +kernel
theorem dX7_snapshot_17 : decode cX7_snapshot 17 = .ok (.iadd, 1) := by decide +kernel
theorem dX7_snapshot_18 : decode cX7_snapshot 18 = .ok (.iaload, 1) := by decide +kernel
theorem dX7_snapshot_19 : decode cX7_snapshot 19 = .ok (.ifCond .ne 7, 3) := by decide +kernel
theorem dX7_snapshot_22 : decode cX7_snapshot 22 = .ok (.iload_n 3, 1) := by decide +kernel
theorem dX7_snapshot_23 : decode cX7_snapshot 23 = .ok (.goto 4, 3) := by decide +kernel
theorem dX7_snapshot_26 : decode cX7_snapshot 26 = .ok (.iload_n 2, 1) := by decide +kernel
theorem dX7_snapshot_27 : decode cX7_snapshot 27 = .ok (.istore_n 2, 1) := by decide +kernel
theorem dX7_snapshot_28 : decode cX7_snapshot 28 = .ok (.iinc 3 (-1), 3) := by decide +kernel
theorem dX7_snapshot_31 : decode cX7_snapshot 31 = .ok (.goto (-26), 3) := by decide +kernel
theorem dX7_snapshot_34 : decode cX7_snapshot 34 = .ok (.aload_n 0, 1) := by decide +kernel
theorem dX7_snapshot_35 : decode cX7_snapshot 35 = .ok (.aload_n 0, 1) := by decide +kernel
theorem dX7_snapshot_36 : decode cX7_snapshot 36 = .ok (.iload_n 1, 1) := by decide +kernel
theorem dX7_snapshot_37 : decode cX7_snapshot 37 = .ok (.invokevirtual 41, 3) := by decide +kernel
theorem dX7_snapshot_40 : decode cX7_snapshot 40 = .ok (.iload_n 2, 1) := by decide +kernel
theorem dX7_snapshot_41 : decode cX7_snapshot 41 = .ok (.ifCond .lt 7, 3) := by decide +kernel
theorem dX7_snapshot_44 : decode cX7_snapshot 44 = .ok (.iconst 1, 1) := by decide +kernel
theorem dX7_snapshot_45 : decode cX7_snapshot 45 = .ok (.goto 4, 3) := by decide +kernel
theorem dX7_snapshot_48 : decode cX7_snapshot 48 = .ok (.iconst 0, 1) := by decide +kernel
theorem dX7_snapshot_49 : decode cX7_snapshot 49 = .ok (.invokevirtual 59, 3) := by decide +kernel
theorem dX7_snapshot_52 : decode cX7_snapshot 52 = .ok (.ifCond .ne 5, 3) := by decide +kernel
theorem dX7_snapshot_55 : decode cX7_snapshot 55 = .ok (.iconst 0, 1) := by decide +kernel
theorem dX7_snapshot_56 : decode cX7_snapshot 56 = .ok (.ireturn, 1) := by decide +kernel
theorem dX7_snapshot_57 : decode cX7_snapshot 57 = .ok (.aload_n 0, 1) := by decide +kernel
theorem dX7_snapshot_58 : decode cX7_snapshot 58 = .ok (.getfield 7, 3) := by decide +kernel
theorem dX7_snapshot_61 : decode cX7_snapshot 61 = .ok (.sipush 3394, 3) := by decide +kernel
theorem dX7_snapshot_64 : decode cX7_snapshot 64 = .ok (.iaload, 1) := by decide +kernel
theorem dX7_snapshot_65 : decode cX7_snapshot 65 = .ok (.istore_n 3, 1) := by decide +kernel
theorem dX7_snapshot_66 : decode cX7_snapshot 66 = .ok (.aload_n 0, 1) := by decide +kernel
theorem dX7_snapshot_67 : decode cX7_snapshot 67 = .ok (.getfield 7, 3) := by decide +kernel
theorem dX7_snapshot_70 : decode cX7_snapshot 70 = .ok (.sipush 3394, 3) := by decide +kernel
theorem dX7_snapshot_73 : decode cX7_snapshot 73 = .ok (.dup2, 1) := by decide +kernel
theorem dX7_snapshot_74 : decode cX7_snapshot 74 = .ok (.iaload, 1) := by decide +kernel
theorem dX7_snapshot_75 : decode cX7_snapshot 75 = .ok (.iconst 1, 1) := by decide +kernel
theorem dX7_snapshot_76 : decode cX7_snapshot 76 = .ok (.iadd, 1) := by decide +kernel
theorem dX7_snapshot_77 : decode cX7_snapshot 77 = .ok (.iastore, 1) := by decide +kernel
theorem dX7_snapshot_78 : decode cX7_snapshot 78 = .ok (.aload_n 0, 1) := by decide +kernel
theorem dX7_snapshot_79 : decode cX7_snapshot 79 = .ok (.getfield 7, 3) := by decide +kernel
theorem dX7_snapshot_82 : decode cX7_snapshot 82 = .ok (.sipush 2394, 3) := by decide +kernel
theorem dX7_snapshot_85 : decode cX7_snapshot 85 = .ok (.iload_n 2, 1) := by decide +kernel
theorem dX7_snapshot_86 : decode cX7_snapshot 86 = .ok (.iadd, 1) := by decide +kernel
theorem dX7_snapshot_87 : decode cX7_snapshot 87 = .ok (.iload_n 3, 1) := by decide +kernel
theorem dX7_snapshot_88 : decode cX7_snapshot 88 = .ok (.iconst 1, 1) := by decide +kernel
theorem dX7_snapshot_89 : decode cX7_snapshot 89 = .ok (.iadd, 1) := by decide +kernel
theorem dX7_snapshot_90 : decode cX7_snapshot 90 = .ok (.iastore, 1) := by decide +kernel
theorem dX7_snapshot_91 : decode cX7_snapshot 91 = .ok (.aload_n 0, 1) := by decide +kernel
theorem dX7_snapshot_92 : decode cX7_snapshot 92 = .ok (.getfield 7, 3) := by decide +kernel
theorem dX7_snapshot_95 : decode cX7_snapshot 95 = .ok (.sipush 2406, 3) := by decide +kernel
theorem dX7_snapshot_98 : decode cX7_snapshot 98 = .ok (.iload_n 2, 1) := by decide +kernel
theorem dX7_snapshot_99 : decode cX7_snapshot 99 = .ok (.iadd, 1) := by decide +kernel
theorem dX7_snapshot_100 : decode cX7_snapshot 100 = .ok (.aload_n 0, 1) := by decide +kernel
theorem dX7_snapshot_101 : decode cX7_snapshot 101 = .ok (.getfield 7, 3) := by decide +kernel
theorem dX7_snapshot_104 : decode cX7_snapshot 104 = .ok (.sipush 3395, 3) := by decide +kernel
theorem dX7_snapshot_107 : decode cX7_snapshot 107 = .ok (.iaload, 1) := by decide +kernel
theorem dX7_snapshot_108 : decode cX7_snapshot 108 = .ok (.iastore, 1) := by decide +kernel
theorem dX7_snapshot_109 : decode cX7_snapshot 109 = .ok (.aload_n 0, 1) := by decide +kernel
theorem dX7_snapshot_110 : decode cX7_snapshot 110 = .ok (.getfield 7, 3) := by decide +kernel
theorem dX7_snapshot_113 : decode cX7_snapshot 113 = .ok (.sipush 2418, 3) := by decide +kernel
theorem dX7_snapshot_116 : decode cX7_snapshot 116 = .ok (.iload_n 2, 1) := by decide +kernel
theorem dX7_snapshot_117 : decode cX7_snapshot 117 = .ok (.iadd, 1) := by decide +kernel
theorem dX7_snapshot_118 : decode cX7_snapshot 118 = .ok (.iload_n 1, 1) := by decide +kernel
theorem dX7_snapshot_119 : decode cX7_snapshot 119 = .ok (.iastore, 1) := by decide +kernel
theorem dX7_snapshot_120 : decode cX7_snapshot 120 = .ok (.aload_n 0, 1) := by decide +kernel
theorem dX7_snapshot_121 : decode cX7_snapshot 121 = .ok (.getfield 7, 3) := by decide +kernel
theorem dX7_snapshot_124 : decode cX7_snapshot 124 = .ok (.sipush 2316, 3) := by decide +kernel
theorem dX7_snapshot_127 : decode cX7_snapshot 127 = .ok (.bipush 12, 2) := by decide +kernel
theorem dX7_snapshot_129 : decode cX7_snapshot 129 = .ok (.iload_n 1, 1) := by decide +kernel
theorem dX7_snapshot_130 : decode cX7_snapshot 130 = .ok (.imul, 1) := by decide +kernel
theorem dX7_snapshot_131 : decode cX7_snapshot 131 = .ok (.iadd, 1) := by decide +kernel
theorem dX7_snapshot_132 : decode cX7_snapshot 132 = .ok (.aload_n 0, 1) := by decide +kernel
theorem dX7_snapshot_133 : decode cX7_snapshot 133 = .ok (.getfield 7, 3) := by decide +kernel
theorem dX7_snapshot_136 : decode cX7_snapshot 136 = .ok (.sipush 2388, 3) := by decide +kernel
theorem dX7_snapshot_139 : decode cX7_snapshot 139 = .ok (.iload_n 1, 1) := by decide +kernel
theorem dX7_snapshot_140 : decode cX7_snapshot 140 = .ok (.iadd, 1) := by decide +kernel
theorem dX7_snapshot_141 : decode cX7_snapshot 141 = .ok (.iaload, 1) := by decide +kernel
theorem dX7_snapshot_142 : decode cX7_snapshot 142 = .ok (.iadd, 1) := by decide +kernel
theorem dX7_snapshot_143 : decode cX7_snapshot 143 = .ok (.iload_n 2, 1) := by decide +kernel
theorem dX7_snapshot_144 : decode cX7_snapshot 144 = .ok (.iastore, 1) := by decide +kernel
theorem dX7_snapshot_145 : decode cX7_snapshot 145 = .ok (.aload_n 0, 1) := by decide +kernel
theorem dX7_snapshot_146 : decode cX7_snapshot 146 = .ok (.getfield 7, 3) := by decide +kernel
theorem dX7_snapshot_149 : decode cX7_snapshot 149 = .ok (.sipush 2388, 3) := by decide +kernel
theorem dX7_snapshot_152 : decode cX7_snapshot 152 = .ok (.iload_n 1, 1) := by decide +kernel
theorem dX7_snapshot_153 : decode cX7_snapshot 153 = .ok (.iadd, 1) := by decide +kernel
theorem dX7_snapshot_154 : decode cX7_snapshot 154 = .ok (.dup2, 1) := by decide +kernel
theorem dX7_snapshot_155 : decode cX7_snapshot 155 = .ok (.iaload, 1) := by decide +kernel
theorem dX7_snapshot_156 : decode cX7_snapshot 156 = .ok (.iconst 1, 1) := by decide +kernel
theorem dX7_snapshot_157 : decode cX7_snapshot 157 = .ok (.iadd, 1) := by decide +kernel
theorem dX7_snapshot_158 : decode cX7_snapshot 158 = .ok (.iastore, 1) := by decide +kernel
theorem dX7_snapshot_159 : decode cX7_snapshot 159 = .ok (.iconst 0, 1) := by decide +kernel
theorem dX7_snapshot_160 : decode cX7_snapshot 160 = .ok (.istore 4, 2) := by decide +kernel
theorem dX7_snapshot_162 : decode cX7_snapshot 162 = .ok (.iload 4, 2) := by decide +kernel
theorem dX7_snapshot_164 : decode cX7_snapshot 164 = .ok (.sipush 128, 3) := by decide +kernel
theorem dX7_snapshot_167 : decode cX7_snapshot 167 = .ok (.if_icmp .ge 41, 3) := by decide +kernel
theorem dX7_snapshot_170 : decode cX7_snapshot 170 = .ok (.aload_n 0, 1) := by decide +kernel
theorem dX7_snapshot_171 : decode cX7_snapshot 171 = .ok (.getfield 7, 3) := by decide +kernel
theorem dX7_snapshot_174 : decode cX7_snapshot 174 = .ok (.sipush 768, 3) := by decide +kernel
theorem dX7_snapshot_177 : decode cX7_snapshot 177 = .ok (.sipush 128, 3) := by decide +kernel
theorem dX7_snapshot_180 : decode cX7_snapshot 180 = .ok (.iload_n 2, 1) := by decide +kernel
theorem dX7_snapshot_181 : decode cX7_snapshot 181 = .ok (.imul, 1) := by decide +kernel
theorem dX7_snapshot_182 : decode cX7_snapshot 182 = .ok (.iadd, 1) := by decide +kernel
theorem dX7_snapshot_183 : decode cX7_snapshot 183 = .ok (.iload 4, 2) := by decide +kernel
theorem dX7_snapshot_185 : decode cX7_snapshot 185 = .ok (.iadd, 1) := by decide +kernel
theorem dX7_snapshot_186 : decode cX7_snapshot 186 = .ok (.aload_n 0, 1) := by decide +kernel
theorem dX7_snapshot_187 : decode cX7_snapshot 187 = .ok (.getfield 7, 3) := by decide +kernel
theorem dX7_snapshot_190 : decode cX7_snapshot 190 = .ok (.iconst 0, 1) := by decide +kernel
theorem dX7_snapshot_191 : decode cX7_snapshot 191 = .ok (.sipush 128, 3) := by decide +kernel
theorem dX7_snapshot_194 : decode cX7_snapshot 194 = .ok (.iload_n 1, 1) := by decide +kernel
theorem dX7_snapshot_195 : decode cX7_snapshot 195 = .ok (.imul, 1) := by decide +kernel
theorem dX7_snapshot_196 : decode cX7_snapshot 196 = .ok (.iadd, 1) := by decide +kernel
theorem dX7_snapshot_197 : decode cX7_snapshot 197 = .ok (.iload 4, 2) := by decide +kernel
theorem dX7_snapshot_199 : decode cX7_snapshot 199 = .ok (.iadd, 1) := by decide +kernel
theorem dX7_snapshot_200 : decode cX7_snapshot 200 = .ok (.iaload, 1) := by decide +kernel
theorem dX7_snapshot_201 : decode cX7_snapshot 201 = .ok (.iastore, 1) := by decide +kernel
theorem dX7_snapshot_202 : decode cX7_snapshot 202 = .ok (.iinc 4 1, 3) := by decide +kernel
theorem dX7_snapshot_205 : decode cX7_snapshot 205 = .ok (.goto (-43), 3) := by decide +kernel
theorem dX7_snapshot_208 : decode cX7_snapshot 208 = .ok (.aload_n 0, 1) := by decide +kernel
theorem dX7_snapshot_209 : decode cX7_snapshot 209 = .ok (.invokevirtual 56, 3) := by decide +kernel
theorem dX7_snapshot_212 : decode cX7_snapshot 212 = .ok (.aload_n 0, 1) := by decide +kernel
theorem dX7_snapshot_213 : decode cX7_snapshot 213 = .ok (.invokevirtual 80, 3) := by decide +kernel
theorem dX7_snapshot_216 : decode cX7_snapshot 216 = .ok (.iadd, 1) := by decide +kernel
theorem dX7_snapshot_217 : decode cX7_snapshot 217 = .ok (.ifCond .ge 7, 3) := by decide +kernel
theorem dX7_snapshot_220 : decode cX7_snapshot 220 = .ok (.iconst 0, 1) := by decide +kernel
theorem dX7_snapshot_221 : decode cX7_snapshot 221 = .ok (.goto 4, 3) := by decide +kernel
theorem dX7_snapshot_224 : decode cX7_snapshot 224 = .ok (.iload_n 3, 1) := by decide +kernel
theorem dX7_snapshot_225 : decode cX7_snapshot 225 = .ok (.ireturn, 1) := by decide +kernel
theorem dX7_isShot_0 : decode cX7_isShot 0 = .ok (.aload_n 0, 1) := by decide +kernel
theorem dX7_isShot_1 : decode cX7_isShot 1 = .ok (.aload_n 0, 1) := by decide +kernel
theorem dX7_isShot_2 : decode cX7_isShot 2 = .ok (.iload_n 1, 1) := by decide +kernel
theorem dX7_isShot_3 : decode cX7_isShot 3 = .ok (.invokevirtual 83, 3) := by decide +kernel
theorem dX7_isShot_6 : decode cX7_isShot 6 = .ok (.ifCond .lt 15, 3) := by decide +kernel
theorem dX7_isShot_9 : decode cX7_isShot 9 = .ok (.iload_n 2, 1) := by decide +kernel
theorem dX7_isShot_10 : decode cX7_isShot 10 = .ok (.iload_n 3, 1) := by decide +kernel
theorem dX7_isShot_11 : decode cX7_isShot 11 = .ok (.invokestatic 44, 3) := by decide +kernel
theorem dX7_isShot_14 : decode cX7_isShot 14 = .ok (.ifCond .eq 7, 3) := by decide +kernel
theorem dX7_isShot_17 : decode cX7_isShot 17 = .ok (.iconst 1, 1) := by decide +kernel
theorem dX7_isShot_18 : decode cX7_isShot 18 = .ok (.goto 4, 3) := by decide +kernel
theorem dX7_isShot_21 : decode cX7_isShot 21 = .ok (.iconst 0, 1) := by decide +kernel
theorem dX7_isShot_22 : decode cX7_isShot 22 = .ok (.iconst 1, 1) := by decide +kernel
theorem dX7_isShot_23 : decode cX7_isShot 23 = .ok (.invokevirtual 59, 3) := by decide +kernel
theorem dX7_isShot_26 : decode cX7_isShot 26 = .ok (.ireturn, 1) := by decide +kernel
theorem dX7_inShot_0 : decode cX7_inShot 0 = .ok (.sipush 768, 3) := by decide +kernel
theorem dX7_inShot_3 : decode cX7_inShot 3 = .ok (.sipush 128, 3) := by decide +kernel
theorem dX7_inShot_6 : decode cX7_inShot 6 = .ok (.aload_n 0, 1) := by decide +kernel
theorem dX7_inShot_7 : decode cX7_inShot 7 = .ok (.iload_n 1, 1) := by decide +kernel
theorem dX7_inShot_8 : decode cX7_inShot 8 = .ok (.invokevirtual 83, 3) := by decide +kernel
theorem dX7_inShot_11 : decode cX7_inShot 11 = .ok (.imul, 1) := by decide +kernel
theorem dX7_inShot_12 : decode cX7_inShot 12 = .ok (.iadd, 1) := by decide +kernel
theorem dX7_inShot_13 : decode cX7_inShot 13 = .ok (.bipush 16, 2) := by decide +kernel
theorem dX7_inShot_15 : decode cX7_inShot 15 = .ok (.iload_n 2, 1) := by decide +kernel
theorem dX7_inShot_16 : decode cX7_inShot 16 = .ok (.imul, 1) := by decide +kernel
theorem dX7_inShot_17 : decode cX7_inShot 17 = .ok (.iadd, 1) := by decide +kernel
theorem dX7_inShot_18 : decode cX7_inShot 18 = .ok (.iload_n 3, 1) := by decide +kernel
theorem dX7_inShot_19 : decode cX7_inShot 19 = .ok (.iadd, 1) := by decide +kernel
theorem dX7_inShot_20 : decode cX7_inShot 20 = .ok (.ireturn, 1) := by decide +kernel
theorem dX7_readSnapshot_0 : decode cX7_readSnapshot 0 = .ok (.aload_n 0, 1) := by decide +kernel
theorem dX7_readSnapshot_1 : decode cX7_readSnapshot 1 = .ok (.iload_n 1, 1) := by decide +kernel
theorem dX7_readSnapshot_2 : decode cX7_readSnapshot 2 = .ok (.iload_n 2, 1) := by decide +kernel
theorem dX7_readSnapshot_3 : decode cX7_readSnapshot 3 = .ok (.iload_n 3, 1) := by decide +kernel
theorem dX7_readSnapshot_4 : decode cX7_readSnapshot 4 = .ok (.invokevirtual 86, 3) := by decide +kernel
theorem dX7_readSnapshot_7 : decode cX7_readSnapshot 7 = .ok (.ifCond .eq 17, 3) := by decide +kernel
theorem dX7_readSnapshot_10 : decode cX7_readSnapshot 10 = .ok (.aload_n 0, 1) := by decide +kernel
theorem dX7_readSnapshot_11 : decode cX7_readSnapshot 11 = .ok (.aload_n 0, 1) := by decide +kernel
theorem dX7_readSnapshot_12 : decode cX7_readSnapshot 12 = .ok (.iload_n 1, 1) := by decide +kernel
theorem dX7_readSnapshot_13 : decode cX7_readSnapshot 13 = .ok (.iload_n 2, 1) := by decide +kernel
theorem dX7_readSnapshot_14 : decode cX7_readSnapshot 14 = .ok (.iload_n 3, 1) := by decide +kernel
theorem dX7_readSnapshot_15 : decode cX7_readSnapshot 15 = .ok (.invokevirtual 89, 3) := by decide +kernel
theorem dX7_readSnapshot_18 : decode cX7_readSnapshot 18 = .ok (.invokevirtual 66, 3) := by decide +kernel
theorem dX7_readSnapshot_21 : decode cX7_readSnapshot 21 = .ok (.goto 4, 3) := by decide +kernel
theorem dX7_readSnapshot_24 : decode cX7_readSnapshot 24 = .ok (.iconst 0, 1) := by decide +kernel
theorem dX7_readSnapshot_25 : decode cX7_readSnapshot 25 = .ok (.ireturn, 1) := by decide +kernel
theorem dX7_blockInSnapshot_0 : decode cX7_blockInSnapshot 0 = .ok (.aload_n 0, 1) := by decide +kernel
theorem dX7_blockInSnapshot_1 : decode cX7_blockInSnapshot 1 = .ok (.iload_n 1, 1) := by decide +kernel
theorem dX7_blockInSnapshot_2 : decode cX7_blockInSnapshot 2 = .ok (.iload_n 2, 1) := by decide +kernel
theorem dX7_blockInSnapshot_3 : decode cX7_blockInSnapshot 3 = .ok (.iload_n 3, 1) := by decide +kernel
theorem dX7_blockInSnapshot_4 : decode cX7_blockInSnapshot 4 = .ok (.invokevirtual 86, 3) := by decide +kernel
theorem dX7_blockInSnapshot_7 : decode cX7_blockInSnapshot 7 = .ok (.ifCond .eq 20, 3) := by decide +kernel
theorem dX7_blockInSnapshot_10 : decode cX7_blockInSnapshot 10 = .ok (.aload_n 0, 1) := by decide +kernel
theorem dX7_blockInSnapshot_11 : decode cX7_blockInSnapshot 11 = .ok (.getfield 7, 3) := by decide +kernel
theorem dX7_blockInSnapshot_14 : decode cX7_blockInSnapshot 14 = .ok (.aload_n 0, 1) := by decide +kernel
theorem dX7_blockInSnapshot_15 : decode cX7_blockInSnapshot 15 = .ok (.iload_n 1, 1) := by decide +kernel
theorem dX7_blockInSnapshot_16 : decode cX7_blockInSnapshot 16 = .ok (.iload_n 2, 1) := by decide +kernel
theorem dX7_blockInSnapshot_17 : decode cX7_blockInSnapshot 17 = .ok (.iload_n 3, 1) := by decide +kernel
theorem dX7_blockInSnapshot_18 : decode cX7_blockInSnapshot 18 = .ok (.invokevirtual 89, 3) := by decide +kernel
theorem dX7_blockInSnapshot_21 : decode cX7_blockInSnapshot 21 = .ok (.iaload, 1) := by decide +kernel
theorem dX7_blockInSnapshot_22 : decode cX7_blockInSnapshot 22 = .ok (.iconst 1, 1) := by decide +kernel
theorem dX7_blockInSnapshot_23 : decode cX7_blockInSnapshot 23 = .ok (.isub, 1) := by decide +kernel
theorem dX7_blockInSnapshot_24 : decode cX7_blockInSnapshot 24 = .ok (.goto 4, 3) := by decide +kernel
theorem dX7_blockInSnapshot_27 : decode cX7_blockInSnapshot 27 = .ok (.iconst 0, 1) := by decide +kernel
theorem dX7_blockInSnapshot_28 : decode cX7_blockInSnapshot 28 = .ok (.ireturn, 1) := by decide +kernel
theorem dX7_transactionOf_0 : decode cX7_transactionOf 0 = .ok (.aload_n 0, 1) := by decide +kernel
theorem dX7_transactionOf_1 : decode cX7_transactionOf 1 = .ok (.iload_n 1, 1) := by decide +kernel
theorem dX7_transactionOf_2 : decode cX7_transactionOf 2 = .ok (.iconst 0, 1) := by decide +kernel
theorem dX7_transactionOf_3 : decode cX7_transactionOf 3 = .ok (.iconst 0, 1) := by decide +kernel
theorem dX7_transactionOf_4 : decode cX7_transactionOf 4 = .ok (.invokevirtual 86, 3) := by decide +kernel
theorem dX7_transactionOf_7 : decode cX7_transactionOf 7 = .ok (.ifCond .eq 20, 3) := by decide +kernel
theorem dX7_transactionOf_10 : decode cX7_transactionOf 10 = .ok (.aload_n 0, 1) := by decide +kernel
theorem dX7_transactionOf_11 : decode cX7_transactionOf 11 = .ok (.getfield 7, 3) := by decide +kernel
theorem dX7_transactionOf_14 : decode cX7_transactionOf 14 = .ok (.sipush 2406, 3) := by decide +kernel
theorem dX7_transactionOf_17 : decode cX7_transactionOf 17 = .ok (.aload_n 0, 1) := by decide +kernel
theorem dX7_transactionOf_18 : decode cX7_transactionOf 18 = .ok (.iload_n 1, 1) := by decide +kernel
theorem dX7_transactionOf_19 : decode cX7_transactionOf 19 = .ok (.invokevirtual 83, 3) := by decide +kernel
theorem dX7_transactionOf_22 : decode cX7_transactionOf 22 = .ok (.iadd, 1) := by decide +kernel
theorem dX7_transactionOf_23 : decode cX7_transactionOf 23 = .ok (.iaload, 1) := by decide +kernel
theorem dX7_transactionOf_24 : decode cX7_transactionOf 24 = .ok (.goto 4, 3) := by decide +kernel
theorem dX7_transactionOf_27 : decode cX7_transactionOf 27 = .ok (.iconst 0, 1) := by decide +kernel
theorem dX7_transactionOf_28 : decode cX7_transactionOf 28 = .ok (.ireturn, 1) := by decide +kernel
theorem dX7_datasetOf_0 : decode cX7_datasetOf 0 = .ok (.aload_n 0, 1) := by decide +kernel
theorem dX7_datasetOf_1 : decode cX7_datasetOf 1 = .ok (.iload_n 1, 1) := by decide +kernel
theorem dX7_datasetOf_2 : decode cX7_datasetOf 2 = .ok (.iconst 0, 1) := by decide +kernel
theorem dX7_datasetOf_3 : decode cX7_datasetOf 3 = .ok (.iconst 0, 1) := by decide +kernel
theorem dX7_datasetOf_4 : decode cX7_datasetOf 4 = .ok (.invokevirtual 86, 3) := by decide +kernel
theorem dX7_datasetOf_7 : decode cX7_datasetOf 7 = .ok (.ifCond .eq 20, 3) := by decide +kernel
theorem dX7_datasetOf_10 : decode cX7_datasetOf 10 = .ok (.aload_n 0, 1) := by decide +kernel
theorem dX7_datasetOf_11 : decode cX7_datasetOf 11 = .ok (.getfield 7, 3) := by decide +kernel
theorem dX7_datasetOf_14 : decode cX7_datasetOf 14 = .ok (.sipush 2418, 3) := by decide +kernel
theorem dX7_datasetOf_17 : decode cX7_datasetOf 17 = .ok (.aload_n 0, 1) := by decide +kernel
theorem dX7_datasetOf_18 : decode cX7_datasetOf 18 = .ok (.iload_n 1, 1) := by decide +kernel
theorem dX7_datasetOf_19 : decode cX7_datasetOf 19 = .ok (.invokevirtual 83, 3) := by decide +kernel
theorem dX7_datasetOf_22 : decode cX7_datasetOf 22 = .ok (.iadd, 1) := by decide +kernel
theorem dX7_datasetOf_23 : decode cX7_datasetOf 23 = .ok (.iaload, 1) := by decide +kernel
theorem dX7_datasetOf_24 : decode cX7_datasetOf 24 = .ok (.goto 4, 3) := by decide +kernel
theorem dX7_datasetOf_27 : decode cX7_datasetOf 27 = .ok (.iconst 0, 1) := by decide +kernel
theorem dX7_datasetOf_28 : decode cX7_datasetOf 28 = .ok (.ireturn, 1) := by decide +kernel
theorem dX7_snapshots_0 : decode cX7_snapshots 0 = .ok (.aload_n 0, 1) := by decide +kernel
theorem dX7_snapshots_1 : decode cX7_snapshots 1 = .ok (.aload_n 0, 1) := by decide +kernel
theorem dX7_snapshots_2 : decode cX7_snapshots 2 = .ok (.iload_n 1, 1) := by decide +kernel
theorem dX7_snapshots_3 : decode cX7_snapshots 3 = .ok (.invokevirtual 41, 3) := by decide +kernel
theorem dX7_snapshots_6 : decode cX7_snapshots 6 = .ok (.iconst 1, 1) := by decide +kernel
theorem dX7_snapshots_7 : decode cX7_snapshots 7 = .ok (.invokevirtual 59, 3) := by decide +kernel
theorem dX7_snapshots_10 : decode cX7_snapshots 10 = .ok (.ifCond .eq 16, 3) := by decide +kernel
theorem dX7_snapshots_13 : decode cX7_snapshots 13 = .ok (.aload_n 0, 1) := by decide +kernel
theorem dX7_snapshots_14 : decode cX7_snapshots 14 = .ok (.getfield 7, 3) := by decide +kernel
theorem dX7_snapshots_17 : decode cX7_snapshots 17 = .ok (.sipush 2388, 3) := by decide +kernel
theorem dX7_snapshots_20 : decode cX7_snapshots 20 = .ok (.iload_n 1, 1) := by decide +kernel
theorem dX7_snapshots_21 : decode cX7_snapshots 21 = .ok (.iadd, 1) := by decide +kernel
theorem dX7_snapshots_22 : decode cX7_snapshots 22 = .ok (.iaload, 1) := by decide +kernel
theorem dX7_snapshots_23 : decode cX7_snapshots 23 = .ok (.goto 4, 3) := by decide +kernel
theorem dX7_snapshots_26 : decode cX7_snapshots 26 = .ok (.iconst 0, 1) := by decide +kernel
theorem dX7_snapshots_27 : decode cX7_snapshots 27 = .ok (.ireturn, 1) := by decide +kernel
theorem dX7_snapshotAt_0 : decode cX7_snapshotAt 0 = .ok (.aload_n 0, 1) := by decide +kernel
theorem dX7_snapshotAt_1 : decode cX7_snapshotAt 1 = .ok (.aload_n 0, 1) := by decide +kernel
theorem dX7_snapshotAt_2 : decode cX7_snapshotAt 2 = .ok (.iload_n 1, 1) := by decide +kernel
theorem dX7_snapshotAt_3 : decode cX7_snapshotAt 3 = .ok (.invokevirtual 41, 3) := by decide +kernel
theorem dX7_snapshotAt_6 : decode cX7_snapshotAt 6 = .ok (.ifCond .eq 27, 3) := by decide +kernel
theorem dX7_snapshotAt_9 : decode cX7_snapshotAt 9 = .ok (.iload_n 2, 1) := by decide +kernel
theorem dX7_snapshotAt_10 : decode cX7_snapshotAt 10 = .ok (.iconst 0, 1) := by decide +kernel
theorem dX7_snapshotAt_11 : decode cX7_snapshotAt 11 = .ok (.aload_n 0, 1) := by decide +kernel
theorem dX7_snapshotAt_12 : decode cX7_snapshotAt 12 = .ok (.getfield 7, 3) := by decide +kernel
theorem dX7_snapshotAt_15 : decode cX7_snapshotAt 15 = .ok (.sipush 2388, 3) := by decide +kernel
theorem dX7_snapshotAt_18 : decode cX7_snapshotAt 18 = .ok (.iload_n 1, 1) := by decide +kernel
theorem dX7_snapshotAt_19 : decode cX7_snapshotAt 19 = .ok (.iadd, 1) := by decide +kernel
theorem dX7_snapshotAt_20 : decode cX7_snapshotAt 20 = .ok (.iaload, 1) := by decide +kernel
theorem dX7_snapshotAt_21 : decode cX7_snapshotAt 21 = .ok (.iconst 1, 1) := by decide +kernel
theorem dX7_snapshotAt_22 : decode cX7_snapshotAt 22 = .ok (.isub, 1) := by decide +kernel
theorem dX7_snapshotAt_23 : decode cX7_snapshotAt 23 = .ok (.invokestatic 26, 3) := by decide +kernel
theorem dX7_snapshotAt_26 : decode cX7_snapshotAt 26 = .ok (.ifCond .eq 7, 3) := by decide +kernel
theorem dX7_snapshotAt_29 : decode cX7_snapshotAt 29 = .ok (.iconst 1, 1) := by decide +kernel
theorem dX7_snapshotAt_30 : decode cX7_snapshotAt 30 = .ok (.goto 4, 3) := by decide +kernel
theorem dX7_snapshotAt_33 : decode cX7_snapshotAt 33 = .ok (.iconst 0, 1) := by decide +kernel
theorem dX7_snapshotAt_34 : decode cX7_snapshotAt 34 = .ok (.iconst 1, 1) := by decide +kernel
theorem dX7_snapshotAt_35 : decode cX7_snapshotAt 35 = .ok (.invokevirtual 59, 3) := by decide +kernel
theorem dX7_snapshotAt_38 : decode cX7_snapshotAt 38 = .ok (.istore_n 3, 1) := by decide +kernel
theorem dX7_snapshotAt_39 : decode cX7_snapshotAt 39 = .ok (.iload_n 3, 1) := by decide +kernel
theorem dX7_snapshotAt_40 : decode cX7_snapshotAt 40 = .ok (.ifCond .eq 32, 3) := by decide +kernel
theorem dX7_snapshotAt_43 : decode cX7_snapshotAt 43 = .ok (.aload_n 0, 1) := by decide +kernel
theorem dX7_snapshotAt_44 : decode cX7_snapshotAt 44 = .ok (.getfield 7, 3) := by decide +kernel
theorem dX7_snapshotAt_47 : decode cX7_snapshotAt 47 = .ok (.sipush 2394, 3) := by decide +kernel
theorem dX7_snapshotAt_50 : decode cX7_snapshotAt 50 = .ok (.aload_n 0, 1) := by decide +kernel
theorem dX7_snapshotAt_51 : decode cX7_snapshotAt 51 = .ok (.getfield 7, 3) := by decide +kernel
theorem dX7_snapshotAt_54 : decode cX7_snapshotAt 54 = .ok (.sipush 2316, 3) := by decide +kernel
theorem dX7_snapshotAt_57 : decode cX7_snapshotAt 57 = .ok (.bipush 12, 2) := by decide +kernel
theorem dX7_snapshotAt_59 : decode cX7_snapshotAt 59 = .ok (.iload_n 1, 1) := by decide +kernel
theorem dX7_snapshotAt_60 : decode cX7_snapshotAt 60 = .ok (.imul, 1) := by decide +kernel
theorem dX7_snapshotAt_61 : decode cX7_snapshotAt 61 = .ok (.iadd, 1) := by decide +kernel
theorem dX7_snapshotAt_62 : decode cX7_snapshotAt 62 = .ok (.iload_n 2, 1) := by decide +kernel
theorem dX7_snapshotAt_63 : decode cX7_snapshotAt 63 = .ok (.iadd, 1) := by decide +kernel
theorem dX7_snapshotAt_64 : decode cX7_snapshotAt 64 = .ok (.iaload, 1) := by decide +kernel
theorem dX7_snapshotAt_65 : decode cX7_snapshotAt 65 = .ok (.iadd, 1) := by decide +kernel
theorem dX7_snapshotAt_66 : decode cX7_snapshotAt 66 = .ok (.iaload, 1) := by decide +kernel
theorem dX7_snapshotAt_67 : decode cX7_snapshotAt 67 = .ok (.iconst 1, 1) := by decide +kernel
theorem dX7_snapshotAt_68 : decode cX7_snapshotAt 68 = .ok (.isub, 1) := by decide +kernel
theorem dX7_snapshotAt_69 : decode cX7_snapshotAt 69 = .ok (.goto 4, 3) := by decide +kernel
theorem dX7_snapshotAt_72 : decode cX7_snapshotAt 72 = .ok (.iconst 0, 1) := by decide +kernel
theorem dX7_snapshotAt_73 : decode cX7_snapshotAt 73 = .ok (.ireturn, 1) := by decide +kernel
theorem dX7_isOrigin_0 : decode cX7_isOrigin 0 = .ok (.iconst 0, 1) := by decide +kernel
theorem dX7_isOrigin_1 : decode cX7_isOrigin 1 = .ok (.istore_n 2, 1) := by decide +kernel
theorem dX7_isOrigin_2 : decode cX7_isOrigin 2 = .ok (.iconst 0, 1) := by decide +kernel
theorem dX7_isOrigin_3 : decode cX7_isOrigin 3 = .ok (.istore_n 3, 1) := by decide +kernel
theorem dX7_isOrigin_4 : decode cX7_isOrigin 4 = .ok (.iload_n 3, 1) := by decide +kernel
theorem dX7_isOrigin_5 : decode cX7_isOrigin 5 = .ok (.bipush 6, 2) := by decide +kernel
theorem dX7_isOrigin_7 : decode cX7_isOrigin 7 = .ok (.if_icmp .ge 49, 3) := by decide +kernel
theorem dX7_isOrigin_10 : decode cX7_isOrigin 10 = .ok (.iload_n 2, 1) := by decide +kernel
theorem dX7_isOrigin_11 : decode cX7_isOrigin 11 = .ok (.ifCond .ne 33, 3) := by decide +kernel
theorem dX7_isOrigin_14 : decode cX7_isOrigin 14 = .ok (.aload_n 0, 1) := by decide +kernel
theorem dX7_isOrigin_15 : decode cX7_isOrigin 15 = .ok (.getfield 7, 3) := by decide +kernel
theorem dX7_isOrigin_18 : decode cX7_isOrigin 18 = .ok (.sipush 2304, 3) := by decide +kernel
theorem dX7_isOrigin_21 : decode cX7_isOrigin 21 = .ok (.iload_n 3, 1) := by decide +kernel
theorem dX7_isOrigin_22 : decode cX7_isOrigin 22 = .ok (.iadd, 1) := by decide +kernel
theorem dX7_isOrigin_23 : decode cX7_isOrigin 23 = .ok (.iaload, 1) := by decide +kernel
theorem dX7_isOrigin_24 : decode cX7_isOrigin 24 = .ok (.iconst 1, 1) := by decide +kernel
theorem dX7_isOrigin_25 : decode cX7_isOrigin 25 = .ok (.if_icmp .ne 23, 3) := by decide +kernel
theorem dX7_isOrigin_28 : decode cX7_isOrigin 28 = .ok (.aload_n 0, 1) := by decide +kernel
theorem dX7_isOrigin_29 : decode cX7_isOrigin 29 = .ok (.getfield 7, 3) := by decide +kernel
theorem dX7_isOrigin_32 : decode cX7_isOrigin 32 = .ok (.sipush 2310, 3) := by decide +kernel
theorem dX7_isOrigin_35 : decode cX7_isOrigin 35 = .ok (.iload_n 3, 1) := by decide +kernel
theorem dX7_isOrigin_36 : decode cX7_isOrigin 36 = .ok (.iadd, 1) := by decide +kernel
theorem dX7_isOrigin_37 : decode cX7_isOrigin 37 = .ok (.iaload, 1) := by decide +kernel
theorem dX7_isOrigin_38 : decode cX7_isOrigin 38 = .ok (.iload_n 1, 1) := by decide +kernel
theorem dX7_isOrigin_39 : decode cX7_isOrigin 39 = .ok (.iconst 1, 1) := by decide +kernel
theorem dX7_isOrigin_40 : decode cX7_isOrigin 40 = .ok (.iadd, 1) := by decide +kernel
theorem dX7_isOrigin_41 : decode cX7_isOrigin 41 = .ok (.if_icmp .ne 7, 3) := by decide +kernel
theorem dX7_isOrigin_44 : decode cX7_isOrigin 44 = .ok (.iconst 1, 1) := by decide +kernel
theorem dX7_isOrigin_45 : decode cX7_isOrigin 45 = .ok (.goto 4, 3) := by decide +kernel
theorem dX7_isOrigin_48 : decode cX7_isOrigin 48 = .ok (.iconst 0, 1) := by decide +kernel
theorem dX7_isOrigin_49 : decode cX7_isOrigin 49 = .ok (.istore_n 2, 1) := by decide +kernel
theorem dX7_isOrigin_50 : decode cX7_isOrigin 50 = .ok (.iinc 3 1, 3) := by decide +kernel
theorem dX7_isOrigin_53 : decode cX7_isOrigin 53 = .ok (.goto (-49), 3) := by decide +kernel
theorem dX7_isOrigin_56 : decode cX7_isOrigin 56 = .ok (.iload_n 2, 1) := by decide +kernel
theorem dX7_isOrigin_57 : decode cX7_isOrigin 57 = .ok (.ireturn, 1) := by decide +kernel
theorem dX7_placeOf_0 : decode cX7_placeOf 0 = .ok (.sipush 2316, 3) := by decide +kernel
theorem dX7_placeOf_3 : decode cX7_placeOf 3 = .ok (.bipush 12, 2) := by decide +kernel
theorem dX7_placeOf_5 : decode cX7_placeOf 5 = .ok (.aload_n 0, 1) := by decide +kernel
theorem dX7_placeOf_6 : decode cX7_placeOf 6 = .ok (.getfield 7, 3) := by decide +kernel
theorem dX7_placeOf_9 : decode cX7_placeOf 9 = .ok (.sipush 2418, 3) := by decide +kernel
theorem dX7_placeOf_12 : decode cX7_placeOf 12 = .ok (.iload_n 1, 1) := by decide +kernel
theorem dX7_placeOf_13 : decode cX7_placeOf 13 = .ok (.iadd, 1) := by decide +kernel
theorem dX7_placeOf_14 : decode cX7_placeOf 14 = .ok (.iaload, 1) := by decide +kernel
theorem dX7_placeOf_15 : decode cX7_placeOf 15 = .ok (.imul, 1) := by decide +kernel
theorem dX7_placeOf_16 : decode cX7_placeOf 16 = .ok (.iadd, 1) := by decide +kernel
theorem dX7_placeOf_17 : decode cX7_placeOf 17 = .ok (.istore_n 2, 1) := by decide +kernel
theorem dX7_placeOf_18 : decode cX7_placeOf 18 = .ok (.iconst 0, 1) := by decide +kernel
theorem dX7_placeOf_19 : decode cX7_placeOf 19 = .ok (.istore_n 3, 1) := by decide +kernel
theorem dX7_placeOf_20 : decode cX7_placeOf 20 = .ok (.aload_n 0, 1) := by decide +kernel
theorem dX7_placeOf_21 : decode cX7_placeOf 21 = .ok (.getfield 7, 3) := by decide +kernel
theorem dX7_placeOf_24 : decode cX7_placeOf 24 = .ok (.iload_n 2, 1) := by decide +kernel
theorem dX7_placeOf_25 : decode cX7_placeOf 25 = .ok (.iload_n 3, 1) := by decide +kernel
theorem dX7_placeOf_26 : decode cX7_placeOf 26 = .ok (.iadd, 1) := by decide +kernel
theorem dX7_placeOf_27 : decode cX7_placeOf 27 = .ok (.iaload, 1) := by decide +kernel
theorem dX7_placeOf_28 : decode cX7_placeOf 28 = .ok (.iload_n 1, 1) := by decide +kernel
theorem dX7_placeOf_29 : decode cX7_placeOf 29 = .ok (.if_icmp .eq 9, 3) := by decide +kernel
theorem dX7_placeOf_32 : decode cX7_placeOf 32 = .ok (.iinc 3 1, 3) := by decide +kernel
theorem dX7_placeOf_35 : decode cX7_placeOf 35 = .ok (.goto (-15), 3) := by decide +kernel
theorem dX7_placeOf_38 : decode cX7_placeOf 38 = .ok (.iload_n 3, 1) := by decide +kernel
theorem dX7_placeOf_39 : decode cX7_placeOf 39 = .ok (.ireturn, 1) := by decide +kernel
theorem dX7_drops_0 : decode cX7_drops 0 = .ok (.aload_n 0, 1) := by decide +kernel
theorem dX7_drops_1 : decode cX7_drops 1 = .ok (.getfield 7, 3) := by decide +kernel
theorem dX7_drops_4 : decode cX7_drops 4 = .ok (.sipush 2418, 3) := by decide +kernel
theorem dX7_drops_7 : decode cX7_drops 7 = .ok (.iload_n 1, 1) := by decide +kernel
theorem dX7_drops_8 : decode cX7_drops 8 = .ok (.iadd, 1) := by decide +kernel
theorem dX7_drops_9 : decode cX7_drops 9 = .ok (.iaload, 1) := by decide +kernel
theorem dX7_drops_10 : decode cX7_drops 10 = .ok (.istore_n 2, 1) := by decide +kernel
theorem dX7_drops_11 : decode cX7_drops 11 = .ok (.aload_n 0, 1) := by decide +kernel
theorem dX7_drops_12 : decode cX7_drops 12 = .ok (.iload_n 1, 1) := by decide +kernel
theorem dX7_drops_13 : decode cX7_drops 13 = .ok (.invokevirtual 92, 3) := by decide +kernel
theorem dX7_drops_16 : decode cX7_drops 16 = .ok (.istore_n 3, 1) := by decide +kernel
theorem dX7_drops_17 : decode cX7_drops 17 = .ok (.aload_n 0, 1) := by decide +kernel
theorem dX7_drops_18 : decode cX7_drops 18 = .ok (.getfield 7, 3) := by decide +kernel
theorem dX7_drops_21 : decode cX7_drops 21 = .ok (.sipush 2388, 3) := by decide +kernel
theorem dX7_drops_24 : decode cX7_drops 24 = .ok (.iload_n 2, 1) := by decide +kernel
theorem dX7_drops_25 : decode cX7_drops 25 = .ok (.iadd, 1) := by decide +kernel
theorem dX7_drops_26 : decode cX7_drops 26 = .ok (.dup2, 1) := by decide +kernel
theorem dX7_drops_27 : decode cX7_drops 27 = .ok (.iaload, 1) := by decide +kernel
theorem dX7_drops_28 : decode cX7_drops 28 = .ok (.iconst 1, 1) := by decide +kernel
theorem dX7_drops_29 : decode cX7_drops 29 = .ok (.isub, 1) := by decide +kernel
theorem dX7_drops_30 : decode cX7_drops 30 = .ok (.iastore, 1) := by decide +kernel
theorem dX7_drops_31 : decode cX7_drops 31 = .ok (.iload_n 3, 1) := by decide +kernel
theorem dX7_drops_32 : decode cX7_drops 32 = .ok (.istore 4, 2) := by decide +kernel
theorem dX7_drops_34 : decode cX7_drops 34 = .ok (.iload 4, 2) := by decide +kernel
theorem dX7_drops_36 : decode cX7_drops 36 = .ok (.aload_n 0, 1) := by decide +kernel
theorem dX7_drops_37 : decode cX7_drops 37 = .ok (.getfield 7, 3) := by decide +kernel
theorem dX7_drops_40 : decode cX7_drops 40 = .ok (.sipush 2388, 3) := by decide +kernel
theorem dX7_drops_43 : decode cX7_drops 43 = .ok (.iload_n 2, 1) := by decide +kernel
theorem dX7_drops_44 : decode cX7_drops 44 = .ok (.iadd, 1) := by decide +kernel
theorem dX7_drops_45 : decode cX7_drops 45 = .ok (.iaload, 1) := by decide +kernel
theorem dX7_drops_46 : decode cX7_drops 46 = .ok (.if_icmp .ge 43, 3) := by decide +kernel
theorem dX7_drops_49 : decode cX7_drops 49 = .ok (.aload_n 0, 1) := by decide +kernel
theorem dX7_drops_50 : decode cX7_drops 50 = .ok (.getfield 7, 3) := by decide +kernel
theorem dX7_drops_53 : decode cX7_drops 53 = .ok (.sipush 2316, 3) := by decide +kernel
theorem dX7_drops_56 : decode cX7_drops 56 = .ok (.bipush 12, 2) := by decide +kernel
theorem dX7_drops_58 : decode cX7_drops 58 = .ok (.iload_n 2, 1) := by decide +kernel
theorem dX7_drops_59 : decode cX7_drops 59 = .ok (.imul, 1) := by decide +kernel
theorem dX7_drops_60 : decode cX7_drops 60 = .ok (.iadd, 1) := by decide +kernel
theorem dX7_drops_61 : decode cX7_drops 61 = .ok (.iload 4, 2) := by decide +kernel
theorem dX7_drops_63 : decode cX7_drops 63 = .ok (.iadd, 1) := by decide +kernel
theorem dX7_drops_64 : decode cX7_drops 64 = .ok (.aload_n 0, 1) := by decide +kernel
theorem dX7_drops_65 : decode cX7_drops 65 = .ok (.getfield 7, 3) := by decide +kernel
theorem dX7_drops_68 : decode cX7_drops 68 = .ok (.sipush 2316, 3) := by decide +kernel
theorem dX7_drops_71 : decode cX7_drops 71 = .ok (.bipush 12, 2) := by decide +kernel
theorem dX7_drops_73 : decode cX7_drops 73 = .ok (.iload_n 2, 1) := by decide +kernel
theorem dX7_drops_74 : decode cX7_drops 74 = .ok (.imul, 1) := by decide +kernel
theorem dX7_drops_75 : decode cX7_drops 75 = .ok (.iadd, 1) := by decide +kernel
theorem dX7_drops_76 : decode cX7_drops 76 = .ok (.iload 4, 2) := by decide +kernel
theorem dX7_drops_78 : decode cX7_drops 78 = .ok (.iadd, 1) := by decide +kernel
theorem dX7_drops_79 : decode cX7_drops 79 = .ok (.iconst 1, 1) := by decide +kernel
theorem dX7_drops_80 : decode cX7_drops 80 = .ok (.iadd, 1) := by decide +kernel
theorem dX7_drops_81 : decode cX7_drops 81 = .ok (.iaload, 1) := by decide +kernel
theorem dX7_drops_82 : decode cX7_drops 82 = .ok (.iastore, 1) := by decide +kernel
theorem dX7_drops_83 : decode cX7_drops 83 = .ok (.iinc 4 1, 3) := by decide +kernel
theorem dX7_drops_86 : decode cX7_drops 86 = .ok (.goto (-52), 3) := by decide +kernel
theorem dX7_drops_89 : decode cX7_drops 89 = .ok (.aload_n 0, 1) := by decide +kernel
theorem dX7_drops_90 : decode cX7_drops 90 = .ok (.getfield 7, 3) := by decide +kernel
theorem dX7_drops_93 : decode cX7_drops 93 = .ok (.sipush 2394, 3) := by decide +kernel
theorem dX7_drops_96 : decode cX7_drops 96 = .ok (.iload_n 1, 1) := by decide +kernel
theorem dX7_drops_97 : decode cX7_drops 97 = .ok (.iadd, 1) := by decide +kernel
theorem dX7_drops_98 : decode cX7_drops 98 = .ok (.iconst 0, 1) := by decide +kernel
theorem dX7_drops_99 : decode cX7_drops 99 = .ok (.iastore, 1) := by decide +kernel
theorem dX7_drops_100 : decode cX7_drops 100 = .ok (.iconst 0, 1) := by decide +kernel
theorem dX7_drops_101 : decode cX7_drops 101 = .ok (.istore 4, 2) := by decide +kernel
theorem dX7_drops_103 : decode cX7_drops 103 = .ok (.iload 4, 2) := by decide +kernel
theorem dX7_drops_105 : decode cX7_drops 105 = .ok (.sipush 128, 3) := by decide +kernel
theorem dX7_drops_108 : decode cX7_drops 108 = .ok (.if_icmp .ge 27, 3) := by decide +kernel
theorem dX7_drops_111 : decode cX7_drops 111 = .ok (.aload_n 0, 1) := by decide +kernel
theorem dX7_drops_112 : decode cX7_drops 112 = .ok (.getfield 7, 3) := by decide +kernel
theorem dX7_drops_115 : decode cX7_drops 115 = .ok (.sipush 768, 3) := by decide +kernel
theorem dX7_drops_118 : decode cX7_drops 118 = .ok (.sipush 128, 3) := by decide +kernel
theorem dX7_drops_121 : decode cX7_drops 121 = .ok (.iload_n 1, 1) := by decide +kernel
theorem dX7_drops_122 : decode cX7_drops 122 = .ok (.imul, 1) := by decide +kernel
theorem dX7_drops_123 : decode cX7_drops 123 = .ok (.iadd, 1) := by decide +kernel
theorem dX7_drops_124 : decode cX7_drops 124 = .ok (.iload 4, 2) := by decide +kernel
theorem dX7_drops_126 : decode cX7_drops 126 = .ok (.iadd, 1) := by decide +kernel
theorem dX7_drops_127 : decode cX7_drops 127 = .ok (.iconst 0, 1) := by decide +kernel
theorem dX7_drops_128 : decode cX7_drops 128 = .ok (.iastore, 1) := by decide +kernel
theorem dX7_drops_129 : decode cX7_drops 129 = .ok (.iinc 4 1, 3) := by decide +kernel
theorem dX7_drops_132 : decode cX7_drops 132 = .ok (.goto (-29), 3) := by decide +kernel
theorem dX7_drops_135 : decode cX7_drops 135 = .ok (.return_, 1) := by decide +kernel
theorem dX7_destroySnapshot_0 : decode cX7_destroySnapshot 0 = .ok (.aload_n 0, 1) := by decide +kernel
theorem dX7_destroySnapshot_1 : decode cX7_destroySnapshot 1 = .ok (.iload_n 1, 1) := by decide +kernel
theorem dX7_destroySnapshot_2 : decode cX7_destroySnapshot 2 = .ok (.invokevirtual 83, 3) := by decide +kernel
theorem dX7_destroySnapshot_5 : decode cX7_destroySnapshot 5 = .ok (.istore_n 2, 1) := by decide +kernel
theorem dX7_destroySnapshot_6 : decode cX7_destroySnapshot 6 = .ok (.aload_n 0, 1) := by decide +kernel
theorem dX7_destroySnapshot_7 : decode cX7_destroySnapshot 7 = .ok (.iload_n 2, 1) := by decide +kernel
theorem dX7_destroySnapshot_8 : decode cX7_destroySnapshot 8 = .ok (.ifCond .lt 7, 3) := by decide +kernel
theorem dX7_destroySnapshot_11 : decode cX7_destroySnapshot 11 = .ok (.iconst 1, 1) := by decide +kernel
theorem dX7_destroySnapshot_12 : decode cX7_destroySnapshot 12 = .ok (.goto 4, 3) := by decide +kernel
theorem dX7_destroySnapshot_15 : decode cX7_destroySnapshot 15 = .ok (.iconst 0, 1) := by decide +kernel
theorem dX7_destroySnapshot_16 : decode cX7_destroySnapshot 16 = .ok (.iload_n 2, 1) := by decide +kernel
theorem dX7_destroySnapshot_17 : decode cX7_destroySnapshot 17 = .ok (.ifCond .lt 15, 3) := by decide +kernel
theorem dX7_destroySnapshot_20 : decode cX7_destroySnapshot 20 = .ok (.aload_n 0, 1) := by decide +kernel
theorem dX7_destroySnapshot_21 : decode cX7_destroySnapshot 21 = .ok (.iload_n 2, 1) := by decide +kernel
theorem dX7_destroySnapshot_22 : decode cX7_destroySnapshot 22 = .ok (.invokevirtual 95, 3) := by decide +kernel
theorem dX7_destroySnapshot_25 : decode cX7_destroySnapshot 25 = .ok (.ifCond .ne 7, 3) := by decide +kernel
theorem dX7_destroySnapshot_28 : decode cX7_destroySnapshot 28 = .ok (.iconst 1, 1) := by decide +kernel
theorem dX7_destroySnapshot_29 : decode cX7_destroySnapshot 29 = .ok (.goto 4, 3) := by decide +kernel
theorem dX7_destroySnapshot_32 : decode cX7_destroySnapshot 32 = .ok (.iconst 0, 1) := by decide +kernel
theorem dX7_destroySnapshot_33 : decode cX7_destroySnapshot 33 = .ok (.invokevirtual 59, 3) := by decide +kernel
theorem dX7_destroySnapshot_36 : decode cX7_destroySnapshot 36 = .ok (.ifCond .ne 5, 3) := by decide +kernel
theorem dX7_destroySnapshot_39 : decode cX7_destroySnapshot 39 = .ok (.iconst 0, 1) := by decide +kernel
theorem dX7_destroySnapshot_40 : decode cX7_destroySnapshot 40 = .ok (.ireturn, 1) := by decide +kernel
theorem dX7_destroySnapshot_41 : decode cX7_destroySnapshot 41 = .ok (.aload_n 0, 1) := by decide +kernel
theorem dX7_destroySnapshot_42 : decode cX7_destroySnapshot 42 = .ok (.iload_n 2, 1) := by decide +kernel
theorem dX7_destroySnapshot_43 : decode cX7_destroySnapshot 43 = .ok (.invokevirtual 98, 3) := by decide +kernel
theorem dX7_destroySnapshot_46 : decode cX7_destroySnapshot 46 = .ok (.aload_n 0, 1) := by decide +kernel
theorem dX7_destroySnapshot_47 : decode cX7_destroySnapshot 47 = .ok (.invokevirtual 56, 3) := by decide +kernel
theorem dX7_destroySnapshot_50 : decode cX7_destroySnapshot 50 = .ok (.ireturn, 1) := by decide +kernel
theorem dX7_rollback_0 : decode cX7_rollback 0 = .ok (.aload_n 0, 1) := by decide +kernel
theorem dX7_rollback_1 : decode cX7_rollback 1 = .ok (.iload_n 2, 1) := by decide +kernel
theorem dX7_rollback_2 : decode cX7_rollback 2 = .ok (.invokevirtual 83, 3) := by decide +kernel
theorem dX7_rollback_5 : decode cX7_rollback 5 = .ok (.istore_n 3, 1) := by decide +kernel
theorem dX7_rollback_6 : decode cX7_rollback 6 = .ok (.aload_n 0, 1) := by decide +kernel
theorem dX7_rollback_7 : decode cX7_rollback 7 = .ok (.aload_n 0, 1) := by decide +kernel
theorem dX7_rollback_8 : decode cX7_rollback 8 = .ok (.iload_n 1, 1) := by decide +kernel
theorem dX7_rollback_9 : decode cX7_rollback 9 = .ok (.invokevirtual 41, 3) := by decide +kernel
theorem dX7_rollback_12 : decode cX7_rollback 12 = .ok (.ifCond .eq 11, 3) := by decide +kernel
theorem dX7_rollback_15 : decode cX7_rollback 15 = .ok (.iload_n 3, 1) := by decide +kernel
theorem dX7_rollback_16 : decode cX7_rollback 16 = .ok (.ifCond .lt 7, 3) := by decide +kernel
theorem dX7_rollback_19 : decode cX7_rollback 19 = .ok (.iconst 1, 1) := by decide +kernel
theorem dX7_rollback_20 : decode cX7_rollback 20 = .ok (.goto 4, 3) := by decide +kernel
theorem dX7_rollback_23 : decode cX7_rollback 23 = .ok (.iconst 0, 1) := by decide +kernel
theorem dX7_rollback_24 : decode cX7_rollback 24 = .ok (.iload_n 3, 1) := by decide +kernel
theorem dX7_rollback_25 : decode cX7_rollback 25 = .ok (.ifCond .lt 21, 3) := by decide +kernel
theorem dX7_rollback_28 : decode cX7_rollback 28 = .ok (.aload_n 0, 1) := by decide +kernel
theorem dX7_rollback_29 : decode cX7_rollback 29 = .ok (.getfield 7, 3) := by decide +kernel
theorem dX7_rollback_32 : decode cX7_rollback 32 = .ok (.sipush 2418, 3) := by decide +kernel
theorem dX7_rollback_35 : decode cX7_rollback 35 = .ok (.iload_n 3, 1) := by decide +kernel
theorem dX7_rollback_36 : decode cX7_rollback 36 = .ok (.iadd, 1) := by decide +kernel
theorem dX7_rollback_37 : decode cX7_rollback 37 = .ok (.iaload, 1) := by decide +kernel
theorem dX7_rollback_38 : decode cX7_rollback 38 = .ok (.iload_n 1, 1) := by decide +kernel
theorem dX7_rollback_39 : decode cX7_rollback 39 = .ok (.if_icmp .ne 7, 3) := by decide +kernel
theorem dX7_rollback_42 : decode cX7_rollback 42 = .ok (.iconst 1, 1) := by decide +kernel
theorem dX7_rollback_43 : decode cX7_rollback 43 = .ok (.goto 4, 3) := by decide +kernel
theorem dX7_rollback_46 : decode cX7_rollback 46 = .ok (.iconst 0, 1) := by decide +kernel
theorem dX7_rollback_47 : decode cX7_rollback 47 = .ok (.invokevirtual 59, 3) := by decide +kernel
theorem dX7_rollback_50 : decode cX7_rollback 50 = .ok (.ifCond .ne 5, 3) := by decide +kernel
theorem dX7_rollback_53 : decode cX7_rollback 53 = .ok (.iconst 0, 1) := by decide +kernel
theorem dX7_rollback_54 : decode cX7_rollback 54 = .ok (.ireturn, 1) := by decide +kernel
theorem dX7_rollback_55 : decode cX7_rollback 55 = .ok (.aload_n 0, 1) := by decide +kernel
theorem dX7_rollback_56 : decode cX7_rollback 56 = .ok (.iload_n 3, 1) := by decide +kernel
theorem dX7_rollback_57 : decode cX7_rollback 57 = .ok (.invokevirtual 92, 3) := by decide +kernel
theorem dX7_rollback_60 : decode cX7_rollback 60 = .ok (.istore 4, 2) := by decide +kernel
theorem dX7_rollback_62 : decode cX7_rollback 62 = .ok (.aload_n 0, 1) := by decide +kernel
theorem dX7_rollback_63 : decode cX7_rollback 63 = .ok (.getfield 7, 3) := by decide +kernel
theorem dX7_rollback_66 : decode cX7_rollback 66 = .ok (.sipush 2388, 3) := by decide +kernel
theorem dX7_rollback_69 : decode cX7_rollback 69 = .ok (.iload_n 1, 1) := by decide +kernel
theorem dX7_rollback_70 : decode cX7_rollback 70 = .ok (.iadd, 1) := by decide +kernel
theorem dX7_rollback_71 : decode cX7_rollback 71 = .ok (.iaload, 1) := by decide +kernel
theorem dX7_rollback_72 : decode cX7_rollback 72 = .ok (.iconst 1, 1) := by decide +kernel
theorem dX7_rollback_73 : decode cX7_rollback 73 = .ok (.isub, 1) := by decide +kernel
theorem dX7_rollback_74 : decode cX7_rollback 74 = .ok (.iload 4, 2) := by decide +kernel
theorem dX7_rollback_76 : decode cX7_rollback 76 = .ok (.isub, 1) := by decide +kernel
theorem dX7_rollback_77 : decode cX7_rollback 77 = .ok (.istore 5, 2) := by decide +kernel
theorem dX7_rollback_79 : decode cX7_rollback 79 = .ok (.iconst 1, 1) := by decide +kernel
theorem dX7_rollback_80 : decode cX7_rollback 80 = .ok (.istore 6, 2) := by decide +kernel
theorem dX7_rollback_82 : decode cX7_rollback 82 = .ok (.iload 6, 2) := by decide +kernel
theorem dX7_rollback_84 : decode cX7_rollback 84 = .ok (.iload 5, 2) := by decide +kernel
theorem dX7_rollback_86 : decode cX7_rollback 86 = .ok (.if_icmp .gt 47, 3) := by decide +kernel
theorem dX7_rollback_89 : decode cX7_rollback 89 = .ok (.aload_n 0, 1) := by decide +kernel
theorem dX7_rollback_90 : decode cX7_rollback 90 = .ok (.aload_n 0, 1) := by decide +kernel
theorem dX7_rollback_91 : decode cX7_rollback 91 = .ok (.aload_n 0, 1) := by decide +kernel
theorem dX7_rollback_92 : decode cX7_rollback 92 = .ok (.getfield 7, 3) := by decide +kernel
theorem dX7_rollback_95 : decode cX7_rollback 95 = .ok (.sipush 2316, 3) := by decide +kernel
theorem dX7_rollback_98 : decode cX7_rollback 98 = .ok (.bipush 12, 2) := by decide +kernel
theorem dX7_rollback_100 : decode cX7_rollback 100 = .ok (.iload_n 1, 1) := by decide +kernel
theorem dX7_rollback_101 : decode cX7_rollback 101 = .ok (.imul, 1) := by decide +kernel
theorem dX7_rollback_102 : decode cX7_rollback 102 = .ok (.iadd, 1) := by decide +kernel
theorem dX7_rollback_103 : decode cX7_rollback 103 = .ok (.iload 4, 2) := by decide +kernel
theorem dX7_rollback_105 : decode cX7_rollback 105 = .ok (.iadd, 1) := by decide +kernel
theorem dX7_rollback_106 : decode cX7_rollback 106 = .ok (.iload 6, 2) := by decide +kernel
theorem dX7_rollback_108 : decode cX7_rollback 108 = .ok (.iadd, 1) := by decide +kernel
theorem dX7_rollback_109 : decode cX7_rollback 109 = .ok (.iaload, 1) := by decide +kernel
theorem dX7_rollback_110 : decode cX7_rollback 110 = .ok (.invokevirtual 95, 3) := by decide +kernel
theorem dX7_rollback_113 : decode cX7_rollback 113 = .ok (.ifCond .eq 7, 3) := by decide +kernel
theorem dX7_rollback_116 : decode cX7_rollback 116 = .ok (.iconst 3, 1) := by decide +kernel
theorem dX7_rollback_117 : decode cX7_rollback 117 = .ok (.goto 7, 3) := by decide +kernel
theorem dX7_rollback_120 : decode cX7_rollback 120 = .ok (.aload_n 0, 1) := by decide +kernel
theorem dX7_rollback_121 : decode cX7_rollback 121 = .ok (.getfield 22, 3) := by decide +kernel
theorem dX7_rollback_124 : decode cX7_rollback 124 = .ok (.putfield 22, 3) := by decide +kernel
theorem dX7_rollback_127 : decode cX7_rollback 127 = .ok (.iinc 6 1, 3) := by decide +kernel
theorem dX7_rollback_130 : decode cX7_rollback 130 = .ok (.goto (-48), 3) := by decide +kernel
theorem dX7_rollback_133 : decode cX7_rollback 133 = .ok (.aload_n 0, 1) := by decide +kernel
theorem dX7_rollback_134 : decode cX7_rollback 134 = .ok (.getfield 22, 3) := by decide +kernel
theorem dX7_rollback_137 : decode cX7_rollback 137 = .ok (.ifCond .le 5, 3) := by decide +kernel
theorem dX7_rollback_140 : decode cX7_rollback 140 = .ok (.iconst 0, 1) := by decide +kernel
theorem dX7_rollback_141 : decode cX7_rollback 141 = .ok (.ireturn, 1) := by decide +kernel
theorem dX7_rollback_142 : decode cX7_rollback 142 = .ok (.iconst 0, 1) := by decide +kernel
theorem dX7_rollback_143 : decode cX7_rollback 143 = .ok (.istore 6, 2) := by decide +kernel
theorem dX7_rollback_145 : decode cX7_rollback 145 = .ok (.iload 6, 2) := by decide +kernel
theorem dX7_rollback_147 : decode cX7_rollback 147 = .ok (.iload 5, 2) := by decide +kernel
theorem dX7_rollback_149 : decode cX7_rollback 149 = .ok (.if_icmp .ge 31, 3) := by decide +kernel
theorem dX7_rollback_152 : decode cX7_rollback 152 = .ok (.aload_n 0, 1) := by decide +kernel
theorem dX7_rollback_153 : decode cX7_rollback 153 = .ok (.aload_n 0, 1) := by decide +kernel
theorem dX7_rollback_154 : decode cX7_rollback 154 = .ok (.getfield 7, 3) := by decide +kernel
theorem dX7_rollback_157 : decode cX7_rollback 157 = .ok (.sipush 2316, 3) := by decide +kernel
theorem dX7_rollback_160 : decode cX7_rollback 160 = .ok (.bipush 12, 2) := by decide +kernel
theorem dX7_rollback_162 : decode cX7_rollback 162 = .ok (.iload_n 1, 1) := by decide +kernel
theorem dX7_rollback_163 : decode cX7_rollback 163 = .ok (.imul, 1) := by decide +kernel
theorem dX7_rollback_164 : decode cX7_rollback 164 = .ok (.iadd, 1) := by decide +kernel
theorem dX7_rollback_165 : decode cX7_rollback 165 = .ok (.iload 4, 2) := by decide +kernel
theorem dX7_rollback_167 : decode cX7_rollback 167 = .ok (.iadd, 1) := by decide +kernel
theorem dX7_rollback_168 : decode cX7_rollback 168 = .ok (.iconst 1, 1) := by decide +kernel
theorem dX7_rollback_169 : decode cX7_rollback 169 = .ok (.iadd, 1) := by decide +kernel
theorem dX7_rollback_170 : decode cX7_rollback 170 = .ok (.iaload, 1) := by decide +kernel
theorem dX7_rollback_171 : decode cX7_rollback 171 = .ok (.invokevirtual 98, 3) := by decide +kernel
theorem dX7_rollback_174 : decode cX7_rollback 174 = .ok (.iinc 6 1, 3) := by decide +kernel
theorem dX7_rollback_177 : decode cX7_rollback 177 = .ok (.goto (-32), 3) := by decide +kernel
theorem dX7_rollback_180 : decode cX7_rollback 180 = .ok (.iconst 0, 1) := by decide +kernel
theorem dX7_rollback_181 : decode cX7_rollback 181 = .ok (.istore 6, 2) := by decide +kernel
theorem dX7_rollback_183 : decode cX7_rollback 183 = .ok (.iload 6, 2) := by decide +kernel
theorem dX7_rollback_185 : decode cX7_rollback 185 = .ok (.sipush 128, 3) := by decide +kernel
theorem dX7_rollback_188 : decode cX7_rollback 188 = .ok (.if_icmp .ge 41, 3) := by decide +kernel
theorem dX7_rollback_191 : decode cX7_rollback 191 = .ok (.aload_n 0, 1) := by decide +kernel
theorem dX7_rollback_192 : decode cX7_rollback 192 = .ok (.getfield 7, 3) := by decide +kernel
theorem dX7_rollback_195 : decode cX7_rollback 195 = .ok (.iconst 0, 1) := by decide +kernel
theorem dX7_rollback_196 : decode cX7_rollback 196 = .ok (.sipush 128, 3) := by decide +kernel
theorem dX7_rollback_199 : decode cX7_rollback 199 = .ok (.iload_n 1, 1) := by decide +kernel
theorem dX7_rollback_200 : decode cX7_rollback 200 = .ok (.imul, 1) := by decide +kernel
theorem dX7_rollback_201 : decode cX7_rollback 201 = .ok (.iadd, 1) := by decide +kernel
theorem dX7_rollback_202 : decode cX7_rollback 202 = .ok (.iload 6, 2) := by decide +kernel
theorem dX7_rollback_204 : decode cX7_rollback 204 = .ok (.iadd, 1) := by decide +kernel
theorem dX7_rollback_205 : decode cX7_rollback 205 = .ok (.aload_n 0, 1) := by decide +kernel
theorem dX7_rollback_206 : decode cX7_rollback 206 = .ok (.getfield 7, 3) := by decide +kernel
theorem dX7_rollback_209 : decode cX7_rollback 209 = .ok (.sipush 768, 3) := by decide +kernel
theorem dX7_rollback_212 : decode cX7_rollback 212 = .ok (.sipush 128, 3) := by decide +kernel
theorem dX7_rollback_215 : decode cX7_rollback 215 = .ok (.iload_n 3, 1) := by decide +kernel
theorem dX7_rollback_216 : decode cX7_rollback 216 = .ok (.imul, 1) := by decide +kernel
theorem dX7_rollback_217 : decode cX7_rollback 217 = .ok (.iadd, 1) := by decide +kernel
theorem dX7_rollback_218 : decode cX7_rollback 218 = .ok (.iload 6, 2) := by decide +kernel
theorem dX7_rollback_220 : decode cX7_rollback 220 = .ok (.iadd, 1) := by decide +kernel
theorem dX7_rollback_221 : decode cX7_rollback 221 = .ok (.iaload, 1) := by decide +kernel
theorem dX7_rollback_222 : decode cX7_rollback 222 = .ok (.iastore, 1) := by decide +kernel
theorem dX7_rollback_223 : decode cX7_rollback 223 = .ok (.iinc 6 1, 3) := by decide +kernel
theorem dX7_rollback_226 : decode cX7_rollback 226 = .ok (.goto (-43), 3) := by decide +kernel
theorem dX7_rollback_229 : decode cX7_rollback 229 = .ok (.aload_n 0, 1) := by decide +kernel
theorem dX7_rollback_230 : decode cX7_rollback 230 = .ok (.invokevirtual 56, 3) := by decide +kernel
theorem dX7_rollback_233 : decode cX7_rollback 233 = .ok (.ifCond .ge 7, 3) := by decide +kernel
theorem dX7_rollback_236 : decode cX7_rollback 236 = .ok (.iconst 0, 1) := by decide +kernel
theorem dX7_rollback_237 : decode cX7_rollback 237 = .ok (.goto 5, 3) := by decide +kernel
theorem dX7_rollback_240 : decode cX7_rollback 240 = .ok (.iload 5, 2) := by decide +kernel
theorem dX7_rollback_242 : decode cX7_rollback 242 = .ok (.ireturn, 1) := by decide +kernel
theorem dX7_changed_0 : decode cX7_changed 0 = .ok (.aload_n 0, 1) := by decide +kernel
theorem dX7_changed_1 : decode cX7_changed 1 = .ok (.iload_n 1, 1) := by decide +kernel
theorem dX7_changed_2 : decode cX7_changed 2 = .ok (.invokevirtual 83, 3) := by decide +kernel
theorem dX7_changed_5 : decode cX7_changed 5 = .ok (.istore_n 3, 1) := by decide +kernel
theorem dX7_changed_6 : decode cX7_changed 6 = .ok (.iconst 0, 1) := by decide +kernel
theorem dX7_changed_7 : decode cX7_changed 7 = .ok (.istore 4, 2) := by decide +kernel
theorem dX7_changed_9 : decode cX7_changed 9 = .ok (.aload_n 0, 1) := by decide +kernel
theorem dX7_changed_10 : decode cX7_changed 10 = .ok (.iload_n 3, 1) := by decide +kernel
theorem dX7_changed_11 : decode cX7_changed 11 = .ok (.ifCond .lt 15, 3) := by decide +kernel
theorem dX7_changed_14 : decode cX7_changed 14 = .ok (.aload_n 0, 1) := by decide +kernel
theorem dX7_changed_15 : decode cX7_changed 15 = .ok (.iload_n 2, 1) := by decide +kernel
theorem dX7_changed_16 : decode cX7_changed 16 = .ok (.invokevirtual 41, 3) := by decide +kernel
theorem dX7_changed_19 : decode cX7_changed 19 = .ok (.ifCond .eq 7, 3) := by decide +kernel
theorem dX7_changed_22 : decode cX7_changed 22 = .ok (.iconst 1, 1) := by decide +kernel
theorem dX7_changed_23 : decode cX7_changed 23 = .ok (.goto 4, 3) := by decide +kernel
theorem dX7_changed_26 : decode cX7_changed 26 = .ok (.iconst 0, 1) := by decide +kernel
theorem dX7_changed_27 : decode cX7_changed 27 = .ok (.iconst 1, 1) := by decide +kernel
theorem dX7_changed_28 : decode cX7_changed 28 = .ok (.invokevirtual 59, 3) := by decide +kernel
theorem dX7_changed_31 : decode cX7_changed 31 = .ok (.istore 5, 2) := by decide +kernel
theorem dX7_changed_33 : decode cX7_changed 33 = .ok (.iconst 0, 1) := by decide +kernel
theorem dX7_changed_34 : decode cX7_changed 34 = .ok (.istore 6, 2) := by decide +kernel
theorem dX7_changed_36 : decode cX7_changed 36 = .ok (.iload 6, 2) := by decide +kernel
theorem dX7_changed_38 : decode cX7_changed 38 = .ok (.sipush 128, 3) := by decide +kernel
theorem dX7_changed_41 : decode cX7_changed 41 = .ok (.if_icmp .ge 59, 3) := by decide +kernel
theorem dX7_changed_44 : decode cX7_changed 44 = .ok (.iload 5, 2) := by decide +kernel
theorem dX7_changed_46 : decode cX7_changed 46 = .ok (.ifCond .eq 54, 3) := by decide +kernel
theorem dX7_changed_49 : decode cX7_changed 49 = .ok (.iload 4, 2) := by decide +kernel
theorem dX7_changed_51 : decode cX7_changed 51 = .ok (.aload_n 0, 1) := by decide +kernel
theorem dX7_changed_52 : decode cX7_changed 52 = .ok (.getfield 7, 3) := by decide +kernel
theorem dX7_changed_55 : decode cX7_changed 55 = .ok (.iconst 0, 1) := by decide +kernel
theorem dX7_changed_56 : decode cX7_changed 56 = .ok (.sipush 128, 3) := by decide +kernel
theorem dX7_changed_59 : decode cX7_changed 59 = .ok (.iload_n 2, 1) := by decide +kernel
theorem dX7_changed_60 : decode cX7_changed 60 = .ok (.imul, 1) := by decide +kernel
theorem dX7_changed_61 : decode cX7_changed 61 = .ok (.iadd, 1) := by decide +kernel
theorem dX7_changed_62 : decode cX7_changed 62 = .ok (.iload 6, 2) := by decide +kernel
theorem dX7_changed_64 : decode cX7_changed 64 = .ok (.iadd, 1) := by decide +kernel
theorem dX7_changed_65 : decode cX7_changed 65 = .ok (.iaload, 1) := by decide +kernel
theorem dX7_changed_66 : decode cX7_changed 66 = .ok (.aload_n 0, 1) := by decide +kernel
theorem dX7_changed_67 : decode cX7_changed 67 = .ok (.getfield 7, 3) := by decide +kernel
theorem dX7_changed_70 : decode cX7_changed 70 = .ok (.sipush 768, 3) := by decide +kernel
theorem dX7_changed_73 : decode cX7_changed 73 = .ok (.sipush 128, 3) := by decide +kernel
theorem dX7_changed_76 : decode cX7_changed 76 = .ok (.iload_n 3, 1) := by decide +kernel
theorem dX7_changed_77 : decode cX7_changed 77 = .ok (.imul, 1) := by decide +kernel
theorem dX7_changed_78 : decode cX7_changed 78 = .ok (.iadd, 1) := by decide +kernel
theorem dX7_changed_79 : decode cX7_changed 79 = .ok (.iload 6, 2) := by decide +kernel
theorem dX7_changed_81 : decode cX7_changed 81 = .ok (.iadd, 1) := by decide +kernel
theorem dX7_changed_82 : decode cX7_changed 82 = .ok (.iaload, 1) := by decide +kernel
theorem dX7_changed_83 : decode cX7_changed 83 = .ok (.if_icmp .eq 7, 3) := by decide +kernel
theorem dX7_changed_86 : decode cX7_changed 86 = .ok (.iconst 1, 1) := by decide +kernel
theorem dX7_changed_87 : decode cX7_changed 87 = .ok (.goto 4, 3) := by decide +kernel
theorem dX7_changed_90 : decode cX7_changed 90 = .ok (.iconst 0, 1) := by decide +kernel
theorem dX7_changed_91 : decode cX7_changed 91 = .ok (.iadd, 1) := by decide +kernel
theorem dX7_changed_92 : decode cX7_changed 92 = .ok (.istore 4, 2) := by decide +kernel
theorem dX7_changed_94 : decode cX7_changed 94 = .ok (.iinc 6 1, 3) := by decide +kernel
theorem dX7_changed_97 : decode cX7_changed 97 = .ok (.goto (-61), 3) := by decide +kernel
theorem dX7_changed_100 : decode cX7_changed 100 = .ok (.iload 4, 2) := by decide +kernel
theorem dX7_changed_102 : decode cX7_changed 102 = .ok (.ireturn, 1) := by decide +kernel
theorem dX7_countSets_0 : decode cX7_countSets 0 = .ok (.iconst 0, 1) := by decide +kernel
theorem dX7_countSets_1 : decode cX7_countSets 1 = .ok (.istore_n 1, 1) := by decide +kernel
theorem dX7_countSets_2 : decode cX7_countSets 2 = .ok (.iconst 0, 1) := by decide +kernel
theorem dX7_countSets_3 : decode cX7_countSets 3 = .ok (.istore_n 2, 1) := by decide +kernel
theorem dX7_countSets_4 : decode cX7_countSets 4 = .ok (.iload_n 2, 1) := by decide +kernel
theorem dX7_countSets_5 : decode cX7_countSets 5 = .ok (.bipush 6, 2) := by decide +kernel
theorem dX7_countSets_7 : decode cX7_countSets 7 = .ok (.if_icmp .ge 22, 3) := by decide +kernel
theorem dX7_countSets_10 : decode cX7_countSets 10 = .ok (.iload_n 1, 1) := by decide +kernel
theorem dX7_countSets_11 : decode cX7_countSets 11 = .ok (.aload_n 0, 1) := by decide +kernel
theorem dX7_countSets_12 : decode cX7_countSets 12 = .ok (.getfield 7, 3) := by decide +kernel
theorem dX7_countSets_15 : decode cX7_countSets 15 = .ok (.sipush 2304, 3) := by decide +kernel
theorem dX7_countSets_18 : decode cX7_countSets 18 = .ok (.iload_n 2, 1) := by decide +kernel
theorem dX7_countSets_19 : decode cX7_countSets 19 = .ok (.iadd, 1) := by decide +kernel
theorem dX7_countSets_20 : decode cX7_countSets 20 = .ok (.iaload, 1) := by decide +kernel
theorem dX7_countSets_21 : decode cX7_countSets 21 = .ok (.iadd, 1) := by decide +kernel
theorem dX7_countSets_22 : decode cX7_countSets 22 = .ok (.istore_n 1, 1) := by decide +kernel
theorem dX7_countSets_23 : decode cX7_countSets 23 = .ok (.iinc 2 1, 3) := by decide +kernel
theorem dX7_countSets_26 : decode cX7_countSets 26 = .ok (.goto (-22), 3) := by decide +kernel
theorem dX7_countSets_29 : decode cX7_countSets 29 = .ok (.iload_n 1, 1) := by decide +kernel
theorem dX7_countSets_30 : decode cX7_countSets 30 = .ok (.ireturn, 1) := by decide +kernel
theorem dX7_datasets_0 : decode cX7_datasets 0 = .ok (.aload_n 0, 1) := by decide +kernel
theorem dX7_datasets_1 : decode cX7_datasets 1 = .ok (.iconst 0, 1) := by decide +kernel
theorem dX7_datasets_2 : decode cX7_datasets 2 = .ok (.putfield 22, 3) := by decide +kernel
theorem dX7_datasets_5 : decode cX7_datasets 5 = .ok (.aload_n 0, 1) := by decide +kernel
theorem dX7_datasets_6 : decode cX7_datasets 6 = .ok (.invokevirtual 102, 3) := by decide +kernel
theorem dX7_datasets_9 : decode cX7_datasets 9 = .ok (.ireturn, 1) := by decide +kernel
theorem dX7_makeClone_0 : decode cX7_makeClone 0 = .ok (.aload_n 0, 1) := by decide +kernel
theorem dX7_makeClone_1 : decode cX7_makeClone 1 = .ok (.iload_n 1, 1) := by decide +kernel
theorem dX7_makeClone_2 : decode cX7_makeClone 2 = .ok (.invokevirtual 83, 3) := by decide +kernel
theorem dX7_makeClone_5 : decode cX7_makeClone 5 = .ok (.istore_n 2, 1) := by decide +kernel
theorem dX7_makeClone_6 : decode cX7_makeClone 6 = .ok (.aload_n 0, 1) := by decide +kernel
theorem dX7_makeClone_7 : decode cX7_makeClone 7 = .ok (.iload_n 2, 1) := by decide +kernel
theorem dX7_makeClone_8 : decode cX7_makeClone 8 = .ok (.ifCond .lt 7, 3) := by decide +kernel
theorem dX7_makeClone_11 : decode cX7_makeClone 11 = .ok (.iconst 1, 1) := by decide +kernel
theorem dX7_makeClone_12 : decode cX7_makeClone 12 = .ok (.goto 4, 3) := by decide +kernel
theorem dX7_makeClone_15 : decode cX7_makeClone 15 = .ok (.iconst 0, 1) := by decide +kernel
theorem dX7_makeClone_16 : decode cX7_makeClone 16 = .ok (.aload_n 0, 1) := by decide +kernel
theorem dX7_makeClone_17 : decode cX7_makeClone 17 = .ok (.invokevirtual 102, 3) := by decide +kernel
theorem dX7_makeClone_20 : decode cX7_makeClone 20 = .ok (.bipush 6, 2) := by decide +kernel
theorem dX7_makeClone_22 : decode cX7_makeClone 22 = .ok (.if_icmp .ge 7, 3) := by decide +kernel
theorem dX7_makeClone_25 : decode cX7_makeClone 25 = .ok (.iconst 1, 1) := by decide +kernel
theorem dX7_makeClone_26 : decode cX7_makeClone 26 = .ok (.goto 4, 3) := by decide +kernel
theorem dX7_makeClone_29 : decode cX7_makeClone 29 = .ok (.iconst 0, 1) := by decide +kernel
theorem dX7_makeClone_30 : decode cX7_makeClone 30 = .ok (.invokevirtual 59, 3) := by decide +kernel
theorem dX7_makeClone_33 : decode cX7_makeClone 33 = .ok (.ifCond .ne 5, 3) := by decide +kernel
theorem dX7_makeClone_36 : decode cX7_makeClone 36 = .ok (.iconst 0, 1) := by decide +kernel
theorem dX7_makeClone_37 : decode cX7_makeClone 37 = .ok (.ireturn, 1) := by decide +kernel
theorem dX7_makeClone_38 : decode cX7_makeClone 38 = .ok (.iconst 0, 1) := by decide +kernel
theorem dX7_makeClone_39 : decode cX7_makeClone 39 = .ok (.istore_n 3, 1) := by decide +kernel
theorem dX7_makeClone_40 : decode cX7_makeClone 40 = .ok (.aload_n 0, 1) := by decide +kernel
theorem dX7_makeClone_41 : decode cX7_makeClone 41 = .ok (.getfield 7, 3) := by decide +kernel
theorem dX7_makeClone_44 : decode cX7_makeClone 44 = .ok (.sipush 2304, 3) := by decide +kernel
theorem dX7_makeClone_47 : decode cX7_makeClone 47 = .ok (.iload_n 3, 1) := by decide +kernel
theorem dX7_makeClone_48 : decode cX7_makeClone 48 = .ok (.iadd, 1) := by decide +kernel
theorem dX7_makeClone_49 : decode cX7_makeClone 49 = .ok (.iaload, 1) := by decide +kernel
theorem dX7_makeClone_50 : decode cX7_makeClone 50 = .ok (.iconst 1, 1) := by decide +kernel
theorem dX7_makeClone_51 : decode cX7_makeClone 51 = .ok (.if_icmp .ne 9, 3) := by decide +kernel
theorem dX7_makeClone_54 : decode cX7_makeClone 54 = .ok (.iinc 3 1, 3) := by decide +kernel
theorem dX7_makeClone_57 : decode cX7_makeClone 57 = .ok (.goto (-17), 3) := by decide +kernel
theorem dX7_makeClone_60 : decode cX7_makeClone 60 = .ok (.aload_n 0, 1) := by decide +kernel
theorem dX7_makeClone_61 : decode cX7_makeClone 61 = .ok (.getfield 7, 3) := by decide +kernel
theorem dX7_makeClone_64 : decode cX7_makeClone 64 = .ok (.sipush 2304, 3) := by decide +kernel
theorem dX7_makeClone_67 : decode cX7_makeClone 67 = .ok (.iload_n 3, 1) := by decide +kernel
theorem dX7_makeClone_68 : decode cX7_makeClone 68 = .ok (.iadd, 1) := by decide +kernel
theorem dX7_makeClone_69 : decode cX7_makeClone 69 = .ok (.iconst 1, 1) := by decide +kernel
theorem dX7_makeClone_70 : decode cX7_makeClone 70 = .ok (.iastore, 1) := by decide +kernel
theorem dX7_makeClone_71 : decode cX7_makeClone 71 = .ok (.aload_n 0, 1) := by decide +kernel
theorem dX7_makeClone_72 : decode cX7_makeClone 72 = .ok (.getfield 7, 3) := by decide +kernel
theorem dX7_makeClone_75 : decode cX7_makeClone 75 = .ok (.sipush 2310, 3) := by decide +kernel
theorem dX7_makeClone_78 : decode cX7_makeClone 78 = .ok (.iload_n 3, 1) := by decide +kernel
theorem dX7_makeClone_79 : decode cX7_makeClone 79 = .ok (.iadd, 1) := by decide +kernel
theorem dX7_makeClone_80 : decode cX7_makeClone 80 = .ok (.iload_n 2, 1) := by decide +kernel
theorem dX7_makeClone_81 : decode cX7_makeClone 81 = .ok (.iconst 1, 1) := by decide +kernel
theorem dX7_makeClone_82 : decode cX7_makeClone 82 = .ok (.iadd, 1) := by decide +kernel
theorem dX7_makeClone_83 : decode cX7_makeClone 83 = .ok (.iastore, 1) := by decide +kernel
theorem dX7_makeClone_84 : decode cX7_makeClone 84 = .ok (.aload_n 0, 1) := by decide +kernel
theorem dX7_makeClone_85 : decode cX7_makeClone 85 = .ok (.getfield 7, 3) := by decide +kernel
theorem dX7_makeClone_88 : decode cX7_makeClone 88 = .ok (.sipush 2388, 3) := by decide +kernel
theorem dX7_makeClone_91 : decode cX7_makeClone 91 = .ok (.iload_n 3, 1) := by decide +kernel
theorem dX7_makeClone_92 : decode cX7_makeClone 92 = .ok (.iadd, 1) := by decide +kernel
theorem dX7_makeClone_93 : decode cX7_makeClone 93 = .ok (.iconst 0, 1) := by decide +kernel
theorem dX7_makeClone_94 : decode cX7_makeClone 94 = .ok (.iastore, 1) := by decide +kernel
theorem dX7_makeClone_95 : decode cX7_makeClone 95 = .ok (.iconst 0, 1) := by decide +kernel
theorem dX7_makeClone_96 : decode cX7_makeClone 96 = .ok (.istore 4, 2) := by decide +kernel
theorem dX7_makeClone_98 : decode cX7_makeClone 98 = .ok (.iload 4, 2) := by decide +kernel
theorem dX7_makeClone_100 : decode cX7_makeClone 100 = .ok (.sipush 128, 3) := by decide +kernel
theorem dX7_makeClone_103 : decode cX7_makeClone 103 = .ok (.if_icmp .ge 41, 3) := by decide +kernel
theorem dX7_makeClone_106 : decode cX7_makeClone 106 = .ok (.aload_n 0, 1) := by decide +kernel
theorem dX7_makeClone_107 : decode cX7_makeClone 107 = .ok (.getfield 7, 3) := by decide +kernel
theorem dX7_makeClone_110 : decode cX7_makeClone 110 = .ok (.iconst 0, 1) := by decide +kernel
theorem dX7_makeClone_111 : decode cX7_makeClone 111 = .ok (.sipush 128, 3) := by decide +kernel
theorem dX7_makeClone_114 : decode cX7_makeClone 114 = .ok (.iload_n 3, 1) := by decide +kernel
theorem dX7_makeClone_115 : decode cX7_makeClone 115 = .ok (.imul, 1) := by decide +kernel
theorem dX7_makeClone_116 : decode cX7_makeClone 116 = .ok (.iadd, 1) := by decide +kernel
theorem dX7_makeClone_117 : decode cX7_makeClone 117 = .ok (.iload 4, 2) := by decide +kernel
theorem dX7_makeClone_119 : decode cX7_makeClone 119 = .ok (.iadd, 1) := by decide +kernel
theorem dX7_makeClone_120 : decode cX7_makeClone 120 = .ok (.aload_n 0, 1) := by decide +kernel
theorem dX7_makeClone_121 : decode cX7_makeClone 121 = .ok (.getfield 7, 3) := by decide +kernel
theorem dX7_makeClone_124 : decode cX7_makeClone 124 = .ok (.sipush 768, 3) := by decide +kernel
theorem dX7_makeClone_127 : decode cX7_makeClone 127 = .ok (.sipush 128, 3) := by decide +kernel
theorem dX7_makeClone_130 : decode cX7_makeClone 130 = .ok (.iload_n 2, 1) := by decide +kernel
theorem dX7_makeClone_131 : decode cX7_makeClone 131 = .ok (.imul, 1) := by decide +kernel
theorem dX7_makeClone_132 : decode cX7_makeClone 132 = .ok (.iadd, 1) := by decide +kernel
theorem dX7_makeClone_133 : decode cX7_makeClone 133 = .ok (.iload 4, 2) := by decide +kernel
theorem dX7_makeClone_135 : decode cX7_makeClone 135 = .ok (.iadd, 1) := by decide +kernel
theorem dX7_makeClone_136 : decode cX7_makeClone 136 = .ok (.iaload, 1) := by decide +kernel
theorem dX7_makeClone_137 : decode cX7_makeClone 137 = .ok (.iastore, 1) := by decide +kernel
theorem dX7_makeClone_138 : decode cX7_makeClone 138 = .ok (.iinc 4 1, 3) := by decide +kernel
theorem dX7_makeClone_141 : decode cX7_makeClone 141 = .ok (.goto (-43), 3) := by decide +kernel
theorem dX7_makeClone_144 : decode cX7_makeClone 144 = .ok (.aload_n 0, 1) := by decide +kernel
theorem dX7_makeClone_145 : decode cX7_makeClone 145 = .ok (.invokevirtual 56, 3) := by decide +kernel
theorem dX7_makeClone_148 : decode cX7_makeClone 148 = .ok (.ifCond .ge 7, 3) := by decide +kernel
theorem dX7_makeClone_151 : decode cX7_makeClone 151 = .ok (.iconst 0, 1) := by decide +kernel
theorem dX7_makeClone_152 : decode cX7_makeClone 152 = .ok (.goto 4, 3) := by decide +kernel
theorem dX7_makeClone_155 : decode cX7_makeClone 155 = .ok (.iload_n 3, 1) := by decide +kernel
theorem dX7_makeClone_156 : decode cX7_makeClone 156 = .ok (.ireturn, 1) := by decide +kernel
theorem dX7_origin_0 : decode cX7_origin 0 = .ok (.aload_n 0, 1) := by decide +kernel
theorem dX7_origin_1 : decode cX7_origin 1 = .ok (.aload_n 0, 1) := by decide +kernel
theorem dX7_origin_2 : decode cX7_origin 2 = .ok (.iload_n 1, 1) := by decide +kernel
theorem dX7_origin_3 : decode cX7_origin 3 = .ok (.invokevirtual 41, 3) := by decide +kernel
theorem dX7_origin_6 : decode cX7_origin 6 = .ok (.iconst 1, 1) := by decide +kernel
theorem dX7_origin_7 : decode cX7_origin 7 = .ok (.invokevirtual 59, 3) := by decide +kernel
theorem dX7_origin_10 : decode cX7_origin 10 = .ok (.istore_n 2, 1) := by decide +kernel
theorem dX7_origin_11 : decode cX7_origin 11 = .ok (.iload_n 2, 1) := by decide +kernel
theorem dX7_origin_12 : decode cX7_origin 12 = .ok (.ifCond .ne 7, 3) := by decide +kernel
theorem dX7_origin_15 : decode cX7_origin 15 = .ok (.iconst 0, 1) := by decide +kernel
theorem dX7_origin_16 : decode cX7_origin 16 = .ok (.goto 43, 3) := by decide +kernel
theorem dX7_origin_19 : decode cX7_origin 19 = .ok (.aload_n 0, 1) := by decide +kernel
theorem dX7_origin_20 : decode cX7_origin 20 = .ok (.getfield 7, 3) := by decide +kernel
theorem dX7_origin_23 : decode cX7_origin 23 = .ok (.sipush 2310, 3) := by decide +kernel
theorem dX7_origin_26 : decode cX7_origin 26 = .ok (.iload_n 1, 1) := by decide +kernel
theorem dX7_origin_27 : decode cX7_origin 27 = .ok (.iadd, 1) := by decide +kernel
theorem dX7_origin_28 : decode cX7_origin 28 = .ok (.iaload, 1) := by decide +kernel
theorem dX7_origin_29 : decode cX7_origin 29 = .ok (.ifCond .ne 7, 3) := by decide +kernel
theorem dX7_origin_32 : decode cX7_origin 32 = .ok (.iconst (-1), 1) := by decide +kernel
theorem dX7_origin_33 : decode cX7_origin 33 = .ok (.goto 26, 3) := by decide +kernel
theorem dX7_origin_36 : decode cX7_origin 36 = .ok (.aload_n 0, 1) := by decide +kernel
theorem dX7_origin_37 : decode cX7_origin 37 = .ok (.getfield 7, 3) := by decide +kernel
theorem dX7_origin_40 : decode cX7_origin 40 = .ok (.sipush 2394, 3) := by decide +kernel
theorem dX7_origin_43 : decode cX7_origin 43 = .ok (.aload_n 0, 1) := by decide +kernel
theorem dX7_origin_44 : decode cX7_origin 44 = .ok (.getfield 7, 3) := by decide +kernel
theorem dX7_origin_47 : decode cX7_origin 47 = .ok (.sipush 2310, 3) := by decide +kernel
theorem dX7_origin_50 : decode cX7_origin 50 = .ok (.iload_n 1, 1) := by decide +kernel
theorem dX7_origin_51 : decode cX7_origin 51 = .ok (.iadd, 1) := by decide +kernel
theorem dX7_origin_52 : decode cX7_origin 52 = .ok (.iaload, 1) := by decide +kernel
theorem dX7_origin_53 : decode cX7_origin 53 = .ok (.iadd, 1) := by decide +kernel
theorem dX7_origin_54 : decode cX7_origin 54 = .ok (.iconst 1, 1) := by decide +kernel
theorem dX7_origin_55 : decode cX7_origin 55 = .ok (.isub, 1) := by decide +kernel
theorem dX7_origin_56 : decode cX7_origin 56 = .ok (.iaload, 1) := by decide +kernel
theorem dX7_origin_57 : decode cX7_origin 57 = .ok (.iconst 1, 1) := by decide +kernel
theorem dX7_origin_58 : decode cX7_origin 58 = .ok (.isub, 1) := by decide +kernel
theorem dX7_origin_59 : decode cX7_origin 59 = .ok (.ireturn, 1) := by decide +kernel
theorem dX7_promote_0 : decode cX7_promote 0 = .ok (.aload_n 0, 1) := by decide +kernel
theorem dX7_promote_1 : decode cX7_promote 1 = .ok (.iload_n 1, 1) := by decide +kernel
theorem dX7_promote_2 : decode cX7_promote 2 = .ok (.invokevirtual 41, 3) := by decide +kernel
theorem dX7_promote_5 : decode cX7_promote 5 = .ok (.istore_n 2, 1) := by decide +kernel
theorem dX7_promote_6 : decode cX7_promote 6 = .ok (.aload_n 0, 1) := by decide +kernel
theorem dX7_promote_7 : decode cX7_promote 7 = .ok (.iload_n 2, 1) := by decide +kernel
theorem dX7_promote_8 : decode cX7_promote 8 = .ok (.iload_n 2, 1) := by decide +kernel
theorem dX7_promote_9 : decode cX7_promote 9 = .ok (.ifCond .eq 20, 3) := by decide +kernel
theorem dX7_promote_12 : decode cX7_promote 12 = .ok (.aload_n 0, 1) := by decide +kernel
theorem dX7_promote_13 : decode cX7_promote 13 = .ok (.getfield 7, 3) := by decide +kernel
theorem dX7_promote_16 : decode cX7_promote 16 = .ok (.sipush 2310, 3) := by decide +kernel
theorem dX7_promote_19 : decode cX7_promote 19 = .ok (.iload_n 1, 1) := by decide +kernel
theorem dX7_promote_20 : decode cX7_promote 20 = .ok (.iadd, 1) := by decide +kernel
theorem dX7_promote_21 : decode cX7_promote 21 = .ok (.iaload, 1) := by decide +kernel
theorem dX7_promote_22 : decode cX7_promote 22 = .ok (.ifCond .le 7, 3) := by decide +kernel
theorem dX7_promote_25 : decode cX7_promote 25 = .ok (.iconst 1, 1) := by decide +kernel
theorem dX7_promote_26 : decode cX7_promote 26 = .ok (.goto 4, 3) := by decide +kernel
theorem dX7_promote_29 : decode cX7_promote 29 = .ok (.iconst 0, 1) := by decide +kernel
theorem dX7_promote_30 : decode cX7_promote 30 = .ok (.invokevirtual 59, 3) := by decide +kernel
theorem dX7_promote_33 : decode cX7_promote 33 = .ok (.ifCond .ne 5, 3) := by decide +kernel
theorem dX7_promote_36 : decode cX7_promote 36 = .ok (.iconst 0, 1) := by decide +kernel
theorem dX7_promote_37 : decode cX7_promote 37 = .ok (.ireturn, 1) := by decide +kernel
theorem dX7_promote_38 : decode cX7_promote 38 = .ok (.aload_n 0, 1) := by decide +kernel
theorem dX7_promote_39 : decode cX7_promote 39 = .ok (.getfield 7, 3) := by decide +kernel
theorem dX7_promote_42 : decode cX7_promote 42 = .ok (.sipush 2310, 3) := by decide +kernel
theorem dX7_promote_45 : decode cX7_promote 45 = .ok (.iload_n 1, 1) := by decide +kernel
theorem dX7_promote_46 : decode cX7_promote 46 = .ok (.iadd, 1) := by decide +kernel
theorem dX7_promote_47 : decode cX7_promote 47 = .ok (.iaload, 1) := by decide +kernel
theorem dX7_promote_48 : decode cX7_promote 48 = .ok (.iconst 1, 1) := by decide +kernel
theorem dX7_promote_49 : decode cX7_promote 49 = .ok (.isub, 1) := by decide +kernel
theorem dX7_promote_50 : decode cX7_promote 50 = .ok (.istore_n 3, 1) := by decide +kernel
theorem dX7_promote_51 : decode cX7_promote 51 = .ok (.aload_n 0, 1) := by decide +kernel
theorem dX7_promote_52 : decode cX7_promote 52 = .ok (.getfield 7, 3) := by decide +kernel
theorem dX7_promote_55 : decode cX7_promote 55 = .ok (.sipush 2418, 3) := by decide +kernel
theorem dX7_promote_58 : decode cX7_promote 58 = .ok (.iload_n 3, 1) := by decide +kernel
theorem dX7_promote_59 : decode cX7_promote 59 = .ok (.iadd, 1) := by decide +kernel
theorem dX7_promote_60 : decode cX7_promote 60 = .ok (.iaload, 1) := by decide +kernel
theorem dX7_promote_61 : decode cX7_promote 61 = .ok (.istore 4, 2) := by decide +kernel
theorem dX7_promote_63 : decode cX7_promote 63 = .ok (.aload_n 0, 1) := by decide +kernel
theorem dX7_promote_64 : decode cX7_promote 64 = .ok (.iload_n 3, 1) := by decide +kernel
theorem dX7_promote_65 : decode cX7_promote 65 = .ok (.invokevirtual 92, 3) := by decide +kernel
theorem dX7_promote_68 : decode cX7_promote 68 = .ok (.iconst 1, 1) := by decide +kernel
theorem dX7_promote_69 : decode cX7_promote 69 = .ok (.iadd, 1) := by decide +kernel
theorem dX7_promote_70 : decode cX7_promote 70 = .ok (.istore 5, 2) := by decide +kernel
theorem dX7_promote_72 : decode cX7_promote 72 = .ok (.aload_n 0, 1) := by decide +kernel
theorem dX7_promote_73 : decode cX7_promote 73 = .ok (.getfield 7, 3) := by decide +kernel
theorem dX7_promote_76 : decode cX7_promote 76 = .ok (.sipush 2388, 3) := by decide +kernel
theorem dX7_promote_79 : decode cX7_promote 79 = .ok (.iload_n 1, 1) := by decide +kernel
theorem dX7_promote_80 : decode cX7_promote 80 = .ok (.iadd, 1) := by decide +kernel
theorem dX7_promote_81 : decode cX7_promote 81 = .ok (.iaload, 1) := by decide +kernel
theorem dX7_promote_82 : decode cX7_promote 82 = .ok (.iconst 1, 1) := by decide +kernel
theorem dX7_promote_83 : decode cX7_promote 83 = .ok (.isub, 1) := by decide +kernel
theorem dX7_promote_84 : decode cX7_promote 84 = .ok (.istore 6, 2) := by decide +kernel
theorem dX7_promote_86 : decode cX7_promote 86 = .ok (.iload 6, 2) := by decide +kernel
theorem dX7_promote_88 : decode cX7_promote 88 = .ok (.ifCond .lt 44, 3) := by decide +kernel
theorem dX7_promote_91 : decode cX7_promote 91 = .ok (.aload_n 0, 1) := by decide +kernel
theorem dX7_promote_92 : decode cX7_promote 92 = .ok (.getfield 7, 3) := by decide +kernel
theorem dX7_promote_95 : decode cX7_promote 95 = .ok (.sipush 2316, 3) := by decide +kernel
theorem dX7_promote_98 : decode cX7_promote 98 = .ok (.bipush 12, 2) := by decide +kernel
theorem dX7_promote_100 : decode cX7_promote 100 = .ok (.iload_n 1, 1) := by decide +kernel
theorem dX7_promote_101 : decode cX7_promote 101 = .ok (.imul, 1) := by decide +kernel
theorem dX7_promote_102 : decode cX7_promote 102 = .ok (.iadd, 1) := by decide +kernel
theorem dX7_promote_103 : decode cX7_promote 103 = .ok (.iload 6, 2) := by decide +kernel
theorem dX7_promote_105 : decode cX7_promote 105 = .ok (.iadd, 1) := by decide +kernel
theorem dX7_promote_106 : decode cX7_promote 106 = .ok (.iload 5, 2) := by decide +kernel
theorem dX7_promote_108 : decode cX7_promote 108 = .ok (.iadd, 1) := by decide +kernel
theorem dX7_promote_109 : decode cX7_promote 109 = .ok (.aload_n 0, 1) := by decide +kernel
theorem dX7_promote_110 : decode cX7_promote 110 = .ok (.getfield 7, 3) := by decide +kernel
theorem dX7_promote_113 : decode cX7_promote 113 = .ok (.sipush 2316, 3) := by decide +kernel
theorem dX7_promote_116 : decode cX7_promote 116 = .ok (.bipush 12, 2) := by decide +kernel
theorem dX7_promote_118 : decode cX7_promote 118 = .ok (.iload_n 1, 1) := by decide +kernel
theorem dX7_promote_119 : decode cX7_promote 119 = .ok (.imul, 1) := by decide +kernel
theorem dX7_promote_120 : decode cX7_promote 120 = .ok (.iadd, 1) := by decide +kernel
theorem dX7_promote_121 : decode cX7_promote 121 = .ok (.iload 6, 2) := by decide +kernel
theorem dX7_promote_123 : decode cX7_promote 123 = .ok (.iadd, 1) := by decide +kernel
theorem dX7_promote_124 : decode cX7_promote 124 = .ok (.iaload, 1) := by decide +kernel
theorem dX7_promote_125 : decode cX7_promote 125 = .ok (.iastore, 1) := by decide +kernel
theorem dX7_promote_126 : decode cX7_promote 126 = .ok (.iinc 6 (-1), 3) := by decide +kernel
theorem dX7_promote_129 : decode cX7_promote 129 = .ok (.goto (-43), 3) := by decide +kernel
theorem dX7_promote_132 : decode cX7_promote 132 = .ok (.iconst 0, 1) := by decide +kernel
theorem dX7_promote_133 : decode cX7_promote 133 = .ok (.istore 6, 2) := by decide +kernel
theorem dX7_promote_135 : decode cX7_promote 135 = .ok (.iload 6, 2) := by decide +kernel
theorem dX7_promote_137 : decode cX7_promote 137 = .ok (.iload 5, 2) := by decide +kernel
theorem dX7_promote_139 : decode cX7_promote 139 = .ok (.if_icmp .ge 58, 3) := by decide +kernel
theorem dX7_promote_142 : decode cX7_promote 142 = .ok (.aload_n 0, 1) := by decide +kernel
theorem dX7_promote_143 : decode cX7_promote 143 = .ok (.getfield 7, 3) := by decide +kernel
theorem dX7_promote_146 : decode cX7_promote 146 = .ok (.sipush 2316, 3) := by decide +kernel
theorem dX7_promote_149 : decode cX7_promote 149 = .ok (.bipush 12, 2) := by decide +kernel
theorem dX7_promote_151 : decode cX7_promote 151 = .ok (.iload 4, 2) := by decide +kernel
theorem dX7_promote_153 : decode cX7_promote 153 = .ok (.imul, 1) := by decide +kernel
theorem dX7_promote_154 : decode cX7_promote 154 = .ok (.iadd, 1) := by decide +kernel
theorem dX7_promote_155 : decode cX7_promote 155 = .ok (.iload 6, 2) := by decide +kernel
theorem dX7_promote_157 : decode cX7_promote 157 = .ok (.iadd, 1) := by decide +kernel
theorem dX7_promote_158 : decode cX7_promote 158 = .ok (.iaload, 1) := by decide +kernel
theorem dX7_promote_159 : decode cX7_promote 159 = .ok (.istore 7, 2) := by decide +kernel
theorem dX7_promote_161 : decode cX7_promote 161 = .ok (.aload_n 0, 1) := by decide +kernel
theorem dX7_promote_162 : decode cX7_promote 162 = .ok (.getfield 7, 3) := by decide +kernel
theorem dX7_promote_165 : decode cX7_promote 165 = .ok (.sipush 2316, 3) := by decide +kernel
theorem dX7_promote_168 : decode cX7_promote 168 = .ok (.bipush 12, 2) := by decide +kernel
theorem dX7_promote_170 : decode cX7_promote 170 = .ok (.iload_n 1, 1) := by decide +kernel
theorem dX7_promote_171 : decode cX7_promote 171 = .ok (.imul, 1) := by decide +kernel
theorem dX7_promote_172 : decode cX7_promote 172 = .ok (.iadd, 1) := by decide +kernel
theorem dX7_promote_173 : decode cX7_promote 173 = .ok (.iload 6, 2) := by decide +kernel
theorem dX7_promote_175 : decode cX7_promote 175 = .ok (.iadd, 1) := by decide +kernel
theorem dX7_promote_176 : decode cX7_promote 176 = .ok (.iload 7, 2) := by decide +kernel
theorem dX7_promote_178 : decode cX7_promote 178 = .ok (.iastore, 1) := by decide +kernel
theorem dX7_promote_179 : decode cX7_promote 179 = .ok (.aload_n 0, 1) := by decide +kernel
theorem dX7_promote_180 : decode cX7_promote 180 = .ok (.getfield 7, 3) := by decide +kernel
theorem dX7_promote_183 : decode cX7_promote 183 = .ok (.sipush 2418, 3) := by decide +kernel
theorem dX7_promote_186 : decode cX7_promote 186 = .ok (.iload 7, 2) := by decide +kernel
theorem dX7_promote_188 : decode cX7_promote 188 = .ok (.iadd, 1) := by decide +kernel
theorem dX7_promote_189 : decode cX7_promote 189 = .ok (.iload_n 1, 1) := by decide +kernel
theorem dX7_promote_190 : decode cX7_promote 190 = .ok (.iastore, 1) := by decide +kernel
theorem dX7_promote_191 : decode cX7_promote 191 = .ok (.iinc 6 1, 3) := by decide +kernel
theorem dX7_promote_194 : decode cX7_promote 194 = .ok (.goto (-59), 3) := by decide +kernel
theorem dX7_promote_197 : decode cX7_promote 197 = .ok (.aload_n 0, 1) := by decide +kernel
theorem dX7_promote_198 : decode cX7_promote 198 = .ok (.getfield 7, 3) := by decide +kernel
theorem dX7_promote_201 : decode cX7_promote 201 = .ok (.sipush 2388, 3) := by decide +kernel
theorem dX7_promote_204 : decode cX7_promote 204 = .ok (.iload_n 1, 1) := by decide +kernel
theorem dX7_promote_205 : decode cX7_promote 205 = .ok (.iadd, 1) := by decide +kernel
theorem dX7_promote_206 : decode cX7_promote 206 = .ok (.dup2, 1) := by decide +kernel
theorem dX7_promote_207 : decode cX7_promote 207 = .ok (.iaload, 1) := by decide +kernel
theorem dX7_promote_208 : decode cX7_promote 208 = .ok (.iload 5, 2) := by decide +kernel
theorem dX7_promote_210 : decode cX7_promote 210 = .ok (.iadd, 1) := by decide +kernel
theorem dX7_promote_211 : decode cX7_promote 211 = .ok (.iastore, 1) := by decide +kernel
theorem dX7_promote_212 : decode cX7_promote 212 = .ok (.aload_n 0, 1) := by decide +kernel
theorem dX7_promote_213 : decode cX7_promote 213 = .ok (.getfield 7, 3) := by decide +kernel
theorem dX7_promote_216 : decode cX7_promote 216 = .ok (.sipush 2388, 3) := by decide +kernel
theorem dX7_promote_219 : decode cX7_promote 219 = .ok (.iload 4, 2) := by decide +kernel
theorem dX7_promote_221 : decode cX7_promote 221 = .ok (.iadd, 1) := by decide +kernel
theorem dX7_promote_222 : decode cX7_promote 222 = .ok (.dup2, 1) := by decide +kernel
theorem dX7_promote_223 : decode cX7_promote 223 = .ok (.iaload, 1) := by decide +kernel
theorem dX7_promote_224 : decode cX7_promote 224 = .ok (.iload 5, 2) := by decide +kernel
theorem dX7_promote_226 : decode cX7_promote 226 = .ok (.isub, 1) := by decide +kernel
theorem dX7_promote_227 : decode cX7_promote 227 = .ok (.iastore, 1) := by decide +kernel
theorem dX7_promote_228 : decode cX7_promote 228 = .ok (.iconst 0, 1) := by decide +kernel
theorem dX7_promote_229 : decode cX7_promote 229 = .ok (.istore 6, 2) := by decide +kernel
theorem dX7_promote_231 : decode cX7_promote 231 = .ok (.iload 6, 2) := by decide +kernel
theorem dX7_promote_233 : decode cX7_promote 233 = .ok (.aload_n 0, 1) := by decide +kernel
theorem dX7_promote_234 : decode cX7_promote 234 = .ok (.getfield 7, 3) := by decide +kernel
theorem dX7_promote_237 : decode cX7_promote 237 = .ok (.sipush 2388, 3) := by decide +kernel
theorem dX7_promote_240 : decode cX7_promote 240 = .ok (.iload 4, 2) := by decide +kernel
theorem dX7_promote_242 : decode cX7_promote 242 = .ok (.iadd, 1) := by decide +kernel
theorem dX7_promote_243 : decode cX7_promote 243 = .ok (.iaload, 1) := by decide +kernel
theorem dX7_promote_244 : decode cX7_promote 244 = .ok (.if_icmp .ge 46, 3) := by decide +kernel
theorem dX7_promote_247 : decode cX7_promote 247 = .ok (.aload_n 0, 1) := by decide +kernel
theorem dX7_promote_248 : decode cX7_promote 248 = .ok (.getfield 7, 3) := by decide +kernel
theorem dX7_promote_251 : decode cX7_promote 251 = .ok (.sipush 2316, 3) := by decide +kernel
theorem dX7_promote_254 : decode cX7_promote 254 = .ok (.bipush 12, 2) := by decide +kernel
theorem dX7_promote_256 : decode cX7_promote 256 = .ok (.iload 4, 2) := by decide +kernel
theorem dX7_promote_258 : decode cX7_promote 258 = .ok (.imul, 1) := by decide +kernel
theorem dX7_promote_259 : decode cX7_promote 259 = .ok (.iadd, 1) := by decide +kernel
theorem dX7_promote_260 : decode cX7_promote 260 = .ok (.iload 6, 2) := by decide +kernel
theorem dX7_promote_262 : decode cX7_promote 262 = .ok (.iadd, 1) := by decide +kernel
theorem dX7_promote_263 : decode cX7_promote 263 = .ok (.aload_n 0, 1) := by decide +kernel
theorem dX7_promote_264 : decode cX7_promote 264 = .ok (.getfield 7, 3) := by decide +kernel
theorem dX7_promote_267 : decode cX7_promote 267 = .ok (.sipush 2316, 3) := by decide +kernel
theorem dX7_promote_270 : decode cX7_promote 270 = .ok (.bipush 12, 2) := by decide +kernel
theorem dX7_promote_272 : decode cX7_promote 272 = .ok (.iload 4, 2) := by decide +kernel
theorem dX7_promote_274 : decode cX7_promote 274 = .ok (.imul, 1) := by decide +kernel
theorem dX7_promote_275 : decode cX7_promote 275 = .ok (.iadd, 1) := by decide +kernel
theorem dX7_promote_276 : decode cX7_promote 276 = .ok (.iload 6, 2) := by decide +kernel
theorem dX7_promote_278 : decode cX7_promote 278 = .ok (.iadd, 1) := by decide +kernel
theorem dX7_promote_279 : decode cX7_promote 279 = .ok (.iload 5, 2) := by decide +kernel
theorem dX7_promote_281 : decode cX7_promote 281 = .ok (.iadd, 1) := by decide +kernel
theorem dX7_promote_282 : decode cX7_promote 282 = .ok (.iaload, 1) := by decide +kernel
theorem dX7_promote_283 : decode cX7_promote 283 = .ok (.iastore, 1) := by decide +kernel
theorem dX7_promote_284 : decode cX7_promote 284 = .ok (.iinc 6 1, 3) := by decide +kernel
theorem dX7_promote_287 : decode cX7_promote 287 = .ok (.goto (-56), 3) := by decide +kernel
theorem dX7_promote_290 : decode cX7_promote 290 = .ok (.aload_n 0, 1) := by decide +kernel
theorem dX7_promote_291 : decode cX7_promote 291 = .ok (.getfield 7, 3) := by decide +kernel
theorem dX7_promote_294 : decode cX7_promote 294 = .ok (.sipush 2310, 3) := by decide +kernel
theorem dX7_promote_297 : decode cX7_promote 297 = .ok (.iload_n 1, 1) := by decide +kernel
theorem dX7_promote_298 : decode cX7_promote 298 = .ok (.iadd, 1) := by decide +kernel
theorem dX7_promote_299 : decode cX7_promote 299 = .ok (.aload_n 0, 1) := by decide +kernel
theorem dX7_promote_300 : decode cX7_promote 300 = .ok (.getfield 7, 3) := by decide +kernel
theorem dX7_promote_303 : decode cX7_promote 303 = .ok (.sipush 2310, 3) := by decide +kernel
theorem dX7_promote_306 : decode cX7_promote 306 = .ok (.iload 4, 2) := by decide +kernel
theorem dX7_promote_308 : decode cX7_promote 308 = .ok (.iadd, 1) := by decide +kernel
theorem dX7_promote_309 : decode cX7_promote 309 = .ok (.iaload, 1) := by decide +kernel
theorem dX7_promote_310 : decode cX7_promote 310 = .ok (.iastore, 1) := by decide +kernel
theorem dX7_promote_311 : decode cX7_promote 311 = .ok (.aload_n 0, 1) := by decide +kernel
theorem dX7_promote_312 : decode cX7_promote 312 = .ok (.getfield 7, 3) := by decide +kernel
theorem dX7_promote_315 : decode cX7_promote 315 = .ok (.sipush 2310, 3) := by decide +kernel
theorem dX7_promote_318 : decode cX7_promote 318 = .ok (.iload 4, 2) := by decide +kernel
theorem dX7_promote_320 : decode cX7_promote 320 = .ok (.iadd, 1) := by decide +kernel
theorem dX7_promote_321 : decode cX7_promote 321 = .ok (.iload_n 3, 1) := by decide +kernel
theorem dX7_promote_322 : decode cX7_promote 322 = .ok (.iconst 1, 1) := by decide +kernel
theorem dX7_promote_323 : decode cX7_promote 323 = .ok (.iadd, 1) := by decide +kernel
theorem dX7_promote_324 : decode cX7_promote 324 = .ok (.iastore, 1) := by decide +kernel
theorem dX7_promote_325 : decode cX7_promote 325 = .ok (.aload_n 0, 1) := by decide +kernel
theorem dX7_promote_326 : decode cX7_promote 326 = .ok (.getfield 7, 3) := by decide +kernel
theorem dX7_promote_329 : decode cX7_promote 329 = .ok (.sipush 2388, 3) := by decide +kernel
theorem dX7_promote_332 : decode cX7_promote 332 = .ok (.iload_n 1, 1) := by decide +kernel
theorem dX7_promote_333 : decode cX7_promote 333 = .ok (.iadd, 1) := by decide +kernel
theorem dX7_promote_334 : decode cX7_promote 334 = .ok (.iaload, 1) := by decide +kernel
theorem dX7_promote_335 : decode cX7_promote 335 = .ok (.ireturn, 1) := by decide +kernel
theorem dX7_destroy_0 : decode cX7_destroy 0 = .ok (.aload_n 0, 1) := by decide +kernel
theorem dX7_destroy_1 : decode cX7_destroy 1 = .ok (.iload_n 1, 1) := by decide +kernel
theorem dX7_destroy_2 : decode cX7_destroy 2 = .ok (.invokevirtual 41, 3) := by decide +kernel
theorem dX7_destroy_5 : decode cX7_destroy 5 = .ok (.istore_n 2, 1) := by decide +kernel
theorem dX7_destroy_6 : decode cX7_destroy 6 = .ok (.aload_n 0, 1) := by decide +kernel
theorem dX7_destroy_7 : decode cX7_destroy 7 = .ok (.iload_n 2, 1) := by decide +kernel
theorem dX7_destroy_8 : decode cX7_destroy 8 = .ok (.iload_n 2, 1) := by decide +kernel
theorem dX7_destroy_9 : decode cX7_destroy 9 = .ok (.ifCond .eq 28, 3) := by decide +kernel
theorem dX7_destroy_12 : decode cX7_destroy 12 = .ok (.aload_n 0, 1) := by decide +kernel
theorem dX7_destroy_13 : decode cX7_destroy 13 = .ok (.getfield 7, 3) := by decide +kernel
theorem dX7_destroy_16 : decode cX7_destroy 16 = .ok (.sipush 2388, 3) := by decide +kernel
theorem dX7_destroy_19 : decode cX7_destroy 19 = .ok (.iload_n 1, 1) := by decide +kernel
theorem dX7_destroy_20 : decode cX7_destroy 20 = .ok (.iadd, 1) := by decide +kernel
theorem dX7_destroy_21 : decode cX7_destroy 21 = .ok (.iaload, 1) := by decide +kernel
theorem dX7_destroy_22 : decode cX7_destroy 22 = .ok (.ifCond .ne 15, 3) := by decide +kernel
theorem dX7_destroy_25 : decode cX7_destroy 25 = .ok (.aload_n 0, 1) := by decide +kernel
theorem dX7_destroy_26 : decode cX7_destroy 26 = .ok (.invokevirtual 102, 3) := by decide +kernel
theorem dX7_destroy_29 : decode cX7_destroy 29 = .ok (.iconst 1, 1) := by decide +kernel
theorem dX7_destroy_30 : decode cX7_destroy 30 = .ok (.if_icmp .le 7, 3) := by decide +kernel
theorem dX7_destroy_33 : decode cX7_destroy 33 = .ok (.iconst 1, 1) := by decide +kernel
theorem dX7_destroy_34 : decode cX7_destroy 34 = .ok (.goto 4, 3) := by decide +kernel
theorem dX7_destroy_37 : decode cX7_destroy 37 = .ok (.iconst 0, 1) := by decide +kernel
theorem dX7_destroy_38 : decode cX7_destroy 38 = .ok (.invokevirtual 59, 3) := by decide +kernel
theorem dX7_destroy_41 : decode cX7_destroy 41 = .ok (.ifCond .ne 5, 3) := by decide +kernel
theorem dX7_destroy_44 : decode cX7_destroy 44 = .ok (.iconst 0, 1) := by decide +kernel
theorem dX7_destroy_45 : decode cX7_destroy 45 = .ok (.ireturn, 1) := by decide +kernel
theorem dX7_destroy_46 : decode cX7_destroy 46 = .ok (.aload_n 0, 1) := by decide +kernel
theorem dX7_destroy_47 : decode cX7_destroy 47 = .ok (.getfield 7, 3) := by decide +kernel
theorem dX7_destroy_50 : decode cX7_destroy 50 = .ok (.sipush 2304, 3) := by decide +kernel
theorem dX7_destroy_53 : decode cX7_destroy 53 = .ok (.iload_n 1, 1) := by decide +kernel
theorem dX7_destroy_54 : decode cX7_destroy 54 = .ok (.iadd, 1) := by decide +kernel
theorem dX7_destroy_55 : decode cX7_destroy 55 = .ok (.iconst 0, 1) := by decide +kernel
theorem dX7_destroy_56 : decode cX7_destroy 56 = .ok (.iastore, 1) := by decide +kernel
theorem dX7_destroy_57 : decode cX7_destroy 57 = .ok (.aload_n 0, 1) := by decide +kernel
theorem dX7_destroy_58 : decode cX7_destroy 58 = .ok (.getfield 7, 3) := by decide +kernel
theorem dX7_destroy_61 : decode cX7_destroy 61 = .ok (.sipush 2310, 3) := by decide +kernel
theorem dX7_destroy_64 : decode cX7_destroy 64 = .ok (.iload_n 1, 1) := by decide +kernel
theorem dX7_destroy_65 : decode cX7_destroy 65 = .ok (.iadd, 1) := by decide +kernel
theorem dX7_destroy_66 : decode cX7_destroy 66 = .ok (.iconst 0, 1) := by decide +kernel
theorem dX7_destroy_67 : decode cX7_destroy 67 = .ok (.iastore, 1) := by decide +kernel
theorem dX7_destroy_68 : decode cX7_destroy 68 = .ok (.iconst 0, 1) := by decide +kernel
theorem dX7_destroy_69 : decode cX7_destroy 69 = .ok (.istore_n 3, 1) := by decide +kernel
theorem dX7_destroy_70 : decode cX7_destroy 70 = .ok (.iload_n 3, 1) := by decide +kernel
theorem dX7_destroy_71 : decode cX7_destroy 71 = .ok (.sipush 128, 3) := by decide +kernel
theorem dX7_destroy_74 : decode cX7_destroy 74 = .ok (.if_icmp .ge 24, 3) := by decide +kernel
theorem dX7_destroy_77 : decode cX7_destroy 77 = .ok (.aload_n 0, 1) := by decide +kernel
theorem dX7_destroy_78 : decode cX7_destroy 78 = .ok (.getfield 7, 3) := by decide +kernel
theorem dX7_destroy_81 : decode cX7_destroy 81 = .ok (.iconst 0, 1) := by decide +kernel
theorem dX7_destroy_82 : decode cX7_destroy 82 = .ok (.sipush 128, 3) := by decide +kernel
theorem dX7_destroy_85 : decode cX7_destroy 85 = .ok (.iload_n 1, 1) := by decide +kernel
theorem dX7_destroy_86 : decode cX7_destroy 86 = .ok (.imul, 1) := by decide +kernel
theorem dX7_destroy_87 : decode cX7_destroy 87 = .ok (.iadd, 1) := by decide +kernel
theorem dX7_destroy_88 : decode cX7_destroy 88 = .ok (.iload_n 3, 1) := by decide +kernel
theorem dX7_destroy_89 : decode cX7_destroy 89 = .ok (.iadd, 1) := by decide +kernel
theorem dX7_destroy_90 : decode cX7_destroy 90 = .ok (.iconst 0, 1) := by decide +kernel
theorem dX7_destroy_91 : decode cX7_destroy 91 = .ok (.iastore, 1) := by decide +kernel
theorem dX7_destroy_92 : decode cX7_destroy 92 = .ok (.iinc 3 1, 3) := by decide +kernel
theorem dX7_destroy_95 : decode cX7_destroy 95 = .ok (.goto (-25), 3) := by decide +kernel
theorem dX7_destroy_98 : decode cX7_destroy 98 = .ok (.aload_n 0, 1) := by decide +kernel
theorem dX7_destroy_99 : decode cX7_destroy 99 = .ok (.invokevirtual 56, 3) := by decide +kernel
theorem dX7_destroy_102 : decode cX7_destroy 102 = .ok (.ireturn, 1) := by decide +kernel
theorem dX7_blocksIn_0 : decode cX7_blocksIn 0 = .ok (.iconst 0, 1) := by decide +kernel
theorem dX7_blocksIn_1 : decode cX7_blocksIn 1 = .ok (.istore_n 3, 1) := by decide +kernel
theorem dX7_blocksIn_2 : decode cX7_blocksIn 2 = .ok (.iload_n 3, 1) := by decide +kernel
theorem dX7_blocksIn_3 : decode cX7_blocksIn 3 = .ok (.sipush 128, 3) := by decide +kernel
theorem dX7_blocksIn_6 : decode cX7_blocksIn 6 = .ok (.if_icmp .ge 16, 3) := by decide +kernel
theorem dX7_blocksIn_9 : decode cX7_blocksIn 9 = .ok (.aload_n 0, 1) := by decide +kernel
theorem dX7_blocksIn_10 : decode cX7_blocksIn 10 = .ok (.getfield 16, 3) := by decide +kernel
theorem dX7_blocksIn_13 : decode cX7_blocksIn 13 = .ok (.iload_n 3, 1) := by decide +kernel
theorem dX7_blocksIn_14 : decode cX7_blocksIn 14 = .ok (.iconst 0, 1) := by decide +kernel
theorem dX7_blocksIn_15 : decode cX7_blocksIn 15 = .ok (.iastore, 1) := by decide +kernel
theorem dX7_blocksIn_16 : decode cX7_blocksIn 16 = .ok (.iinc 3 1, 3) := by decide +kernel
theorem dX7_blocksIn_19 : decode cX7_blocksIn 19 = .ok (.goto (-17), 3) := by decide +kernel
theorem dX7_blocksIn_22 : decode cX7_blocksIn 22 = .ok (.iload_n 1, 1) := by decide +kernel
theorem dX7_blocksIn_23 : decode cX7_blocksIn 23 = .ok (.istore_n 3, 1) := by decide +kernel
theorem dX7_blocksIn_24 : decode cX7_blocksIn 24 = .ok (.iload_n 3, 1) := by decide +kernel
theorem dX7_blocksIn_25 : decode cX7_blocksIn 25 = .ok (.iload_n 1, 1) := by decide +kernel
theorem dX7_blocksIn_26 : decode cX7_blocksIn 26 = .ok (.sipush 128, 3) := by decide +kernel
theorem dX7_blocksIn_29 : decode cX7_blocksIn 29 = .ok (.iadd, 1) := by decide +kernel
theorem dX7_blocksIn_30 : decode cX7_blocksIn 30 = .ok (.if_icmp .ge 35, 3) := by decide +kernel
theorem dX7_blocksIn_33 : decode cX7_blocksIn 33 = .ok (.aload_n 0, 1) := by decide +kernel
theorem dX7_blocksIn_34 : decode cX7_blocksIn 34 = .ok (.getfield 7, 3) := by decide +kernel
theorem dX7_blocksIn_37 : decode cX7_blocksIn 37 = .ok (.iload_n 3, 1) := by decide +kernel
theorem dX7_blocksIn_38 : decode cX7_blocksIn 38 = .ok (.iaload, 1) := by decide +kernel
theorem dX7_blocksIn_39 : decode cX7_blocksIn 39 = .ok (.ifCond .le 20, 3) := by decide +kernel
theorem dX7_blocksIn_42 : decode cX7_blocksIn 42 = .ok (.aload_n 0, 1) := by decide +kernel
theorem dX7_blocksIn_43 : decode cX7_blocksIn 43 = .ok (.getfield 16, 3) := by decide +kernel
theorem dX7_blocksIn_46 : decode cX7_blocksIn 46 = .ok (.aload_n 0, 1) := by decide +kernel
theorem dX7_blocksIn_47 : decode cX7_blocksIn 47 = .ok (.getfield 7, 3) := by decide +kernel
theorem dX7_blocksIn_50 : decode cX7_blocksIn 50 = .ok (.iload_n 3, 1) := by decide +kernel
theorem dX7_blocksIn_51 : decode cX7_blocksIn 51 = .ok (.iaload, 1) := by decide +kernel
theorem dX7_blocksIn_52 : decode cX7_blocksIn 52 = .ok (.iconst 1, 1) := by decide +kernel
theorem dX7_blocksIn_53 : decode cX7_blocksIn 53 = .ok (.isub, 1) := by decide +kernel
theorem dX7_blocksIn_54 : decode cX7_blocksIn 54 = .ok (.dup2, 1) := by decide +kernel
theorem dX7_blocksIn_55 : decode cX7_blocksIn 55 = .ok (.iaload, 1) := by decide +kernel
theorem dX7_blocksIn_56 : decode cX7_blocksIn 56 = .ok (.iconst 1, 1) := by decide +kernel
theorem dX7_blocksIn_57 : decode cX7_blocksIn 57 = .ok (.iadd, 1) := by decide +kernel
theorem dX7_blocksIn_58 : decode cX7_blocksIn 58 = .ok (.iastore, 1) := by decide +kernel
theorem dX7_blocksIn_59 : decode cX7_blocksIn 59 = .ok (.iinc 3 1, 3) := by decide +kernel
theorem dX7_blocksIn_62 : decode cX7_blocksIn 62 = .ok (.goto (-38), 3) := by decide +kernel
theorem dX7_blocksIn_65 : decode cX7_blocksIn 65 = .ok (.iconst 0, 1) := by decide +kernel
theorem dX7_blocksIn_66 : decode cX7_blocksIn 66 = .ok (.istore_n 3, 1) := by decide +kernel
theorem dX7_blocksIn_67 : decode cX7_blocksIn 67 = .ok (.iconst 0, 1) := by decide +kernel
theorem dX7_blocksIn_68 : decode cX7_blocksIn 68 = .ok (.istore 4, 2) := by decide +kernel
theorem dX7_blocksIn_70 : decode cX7_blocksIn 70 = .ok (.iload 4, 2) := by decide +kernel
theorem dX7_blocksIn_72 : decode cX7_blocksIn 72 = .ok (.sipush 128, 3) := by decide +kernel
theorem dX7_blocksIn_75 : decode cX7_blocksIn 75 = .ok (.if_icmp .ge 52, 3) := by decide +kernel
theorem dX7_blocksIn_78 : decode cX7_blocksIn 78 = .ok (.iload_n 3, 1) := by decide +kernel
theorem dX7_blocksIn_79 : decode cX7_blocksIn 79 = .ok (.aload_n 0, 1) := by decide +kernel
theorem dX7_blocksIn_80 : decode cX7_blocksIn 80 = .ok (.getfield 16, 3) := by decide +kernel
theorem dX7_blocksIn_83 : decode cX7_blocksIn 83 = .ok (.iload 4, 2) := by decide +kernel
theorem dX7_blocksIn_85 : decode cX7_blocksIn 85 = .ok (.iaload, 1) := by decide +kernel
theorem dX7_blocksIn_86 : decode cX7_blocksIn 86 = .ok (.ifCond .le 32, 3) := by decide +kernel
theorem dX7_blocksIn_89 : decode cX7_blocksIn 89 = .ok (.iload_n 2, 1) := by decide +kernel
theorem dX7_blocksIn_90 : decode cX7_blocksIn 90 = .ok (.ifCond .eq 24, 3) := by decide +kernel
theorem dX7_blocksIn_93 : decode cX7_blocksIn 93 = .ok (.aload_n 0, 1) := by decide +kernel
theorem dX7_blocksIn_94 : decode cX7_blocksIn 94 = .ok (.getfield 16, 3) := by decide +kernel
theorem dX7_blocksIn_97 : decode cX7_blocksIn 97 = .ok (.iload 4, 2) := by decide +kernel
theorem dX7_blocksIn_99 : decode cX7_blocksIn 99 = .ok (.iaload, 1) := by decide +kernel
theorem dX7_blocksIn_100 : decode cX7_blocksIn 100 = .ok (.aload_n 0, 1) := by decide +kernel
theorem dX7_blocksIn_101 : decode cX7_blocksIn 101 = .ok (.getfield 7, 3) := by decide +kernel
theorem dX7_blocksIn_104 : decode cX7_blocksIn 104 = .ok (.sipush 2814, 3) := by decide +kernel
theorem dX7_blocksIn_107 : decode cX7_blocksIn 107 = .ok (.iload 4, 2) := by decide +kernel
theorem dX7_blocksIn_109 : decode cX7_blocksIn 109 = .ok (.iadd, 1) := by decide +kernel
theorem dX7_blocksIn_110 : decode cX7_blocksIn 110 = .ok (.iaload, 1) := by decide +kernel
theorem dX7_blocksIn_111 : decode cX7_blocksIn 111 = .ok (.if_icmp .ne 7, 3) := by decide +kernel
theorem dX7_blocksIn_114 : decode cX7_blocksIn 114 = .ok (.iconst 1, 1) := by decide +kernel
theorem dX7_blocksIn_115 : decode cX7_blocksIn 115 = .ok (.goto 4, 3) := by decide +kernel
theorem dX7_blocksIn_118 : decode cX7_blocksIn 118 = .ok (.iconst 0, 1) := by decide +kernel
theorem dX7_blocksIn_119 : decode cX7_blocksIn 119 = .ok (.iadd, 1) := by decide +kernel
theorem dX7_blocksIn_120 : decode cX7_blocksIn 120 = .ok (.istore_n 3, 1) := by decide +kernel
theorem dX7_blocksIn_121 : decode cX7_blocksIn 121 = .ok (.iinc 4 1, 3) := by decide +kernel
theorem dX7_blocksIn_124 : decode cX7_blocksIn 124 = .ok (.goto (-54), 3) := by decide +kernel
theorem dX7_blocksIn_127 : decode cX7_blocksIn 127 = .ok (.iload_n 3, 1) := by decide +kernel
theorem dX7_blocksIn_128 : decode cX7_blocksIn 128 = .ok (.ireturn, 1) := by decide +kernel
theorem dX7_referenced_0 : decode cX7_referenced 0 = .ok (.aload_n 0, 1) := by decide +kernel
theorem dX7_referenced_1 : decode cX7_referenced 1 = .ok (.aload_n 0, 1) := by decide +kernel
theorem dX7_referenced_2 : decode cX7_referenced 2 = .ok (.iload_n 1, 1) := by decide +kernel
theorem dX7_referenced_3 : decode cX7_referenced 3 = .ok (.invokevirtual 41, 3) := by decide +kernel
theorem dX7_referenced_6 : decode cX7_referenced 6 = .ok (.iconst 1, 1) := by decide +kernel
theorem dX7_referenced_7 : decode cX7_referenced 7 = .ok (.invokevirtual 59, 3) := by decide +kernel
theorem dX7_referenced_10 : decode cX7_referenced 10 = .ok (.ifCond .eq 18, 3) := by decide +kernel
theorem dX7_referenced_13 : decode cX7_referenced 13 = .ok (.aload_n 0, 1) := by decide +kernel
theorem dX7_referenced_14 : decode cX7_referenced 14 = .ok (.iconst 0, 1) := by decide +kernel
theorem dX7_referenced_15 : decode cX7_referenced 15 = .ok (.sipush 128, 3) := by decide +kernel
theorem dX7_referenced_18 : decode cX7_referenced 18 = .ok (.iload_n 1, 1) := by decide +kernel
theorem dX7_referenced_19 : decode cX7_referenced 19 = .ok (.imul, 1) := by decide +kernel
theorem dX7_referenced_20 : decode cX7_referenced 20 = .ok (.iadd, 1) := by decide +kernel
theorem dX7_referenced_21 : decode cX7_referenced 21 = .ok (.iconst 0, 1) := by decide +kernel
theorem dX7_referenced_22 : decode cX7_referenced 22 = .ok (.invokevirtual 105, 3) := by decide +kernel
theorem dX7_referenced_25 : decode cX7_referenced 25 = .ok (.goto 4, 3) := by decide +kernel
theorem dX7_referenced_28 : decode cX7_referenced 28 = .ok (.iconst 0, 1) := by decide +kernel
theorem dX7_referenced_29 : decode cX7_referenced 29 = .ok (.ireturn, 1) := by decide +kernel
theorem dX7_unique_0 : decode cX7_unique 0 = .ok (.aload_n 0, 1) := by decide +kernel
theorem dX7_unique_1 : decode cX7_unique 1 = .ok (.aload_n 0, 1) := by decide +kernel
theorem dX7_unique_2 : decode cX7_unique 2 = .ok (.iload_n 1, 1) := by decide +kernel
theorem dX7_unique_3 : decode cX7_unique 3 = .ok (.invokevirtual 41, 3) := by decide +kernel
theorem dX7_unique_6 : decode cX7_unique 6 = .ok (.iconst 1, 1) := by decide +kernel
theorem dX7_unique_7 : decode cX7_unique 7 = .ok (.invokevirtual 59, 3) := by decide +kernel
theorem dX7_unique_10 : decode cX7_unique 10 = .ok (.ifCond .eq 18, 3) := by decide +kernel
theorem dX7_unique_13 : decode cX7_unique 13 = .ok (.aload_n 0, 1) := by decide +kernel
theorem dX7_unique_14 : decode cX7_unique 14 = .ok (.iconst 0, 1) := by decide +kernel
theorem dX7_unique_15 : decode cX7_unique 15 = .ok (.sipush 128, 3) := by decide +kernel
theorem dX7_unique_18 : decode cX7_unique 18 = .ok (.iload_n 1, 1) := by decide +kernel
theorem dX7_unique_19 : decode cX7_unique 19 = .ok (.imul, 1) := by decide +kernel
theorem dX7_unique_20 : decode cX7_unique 20 = .ok (.iadd, 1) := by decide +kernel
theorem dX7_unique_21 : decode cX7_unique 21 = .ok (.iconst 1, 1) := by decide +kernel
theorem dX7_unique_22 : decode cX7_unique 22 = .ok (.invokevirtual 105, 3) := by decide +kernel
theorem dX7_unique_25 : decode cX7_unique 25 = .ok (.goto 4, 3) := by decide +kernel
theorem dX7_unique_28 : decode cX7_unique 28 = .ok (.iconst 0, 1) := by decide +kernel
theorem dX7_unique_29 : decode cX7_unique 29 = .ok (.ireturn, 1) := by decide +kernel
theorem dX7_uniqueOfSnapshot_0 : decode cX7_uniqueOfSnapshot 0 = .ok (.aload_n 0, 1) := by decide +kernel
theorem dX7_uniqueOfSnapshot_1 : decode cX7_uniqueOfSnapshot 1 = .ok (.iload_n 1, 1) := by decide +kernel
theorem dX7_uniqueOfSnapshot_2 : decode cX7_uniqueOfSnapshot 2 = .ok (.iconst 0, 1) := by decide +kernel
theorem dX7_uniqueOfSnapshot_3 : decode cX7_uniqueOfSnapshot 3 = .ok (.iconst 0, 1) := by decide +kernel
theorem dX7_uniqueOfSnapshot_4 : decode cX7_uniqueOfSnapshot 4 = .ok (.invokevirtual 86, 3) := by decide +kernel
theorem dX7_uniqueOfSnapshot_7 : decode cX7_uniqueOfSnapshot 7 = .ok (.ifCond .eq 24, 3) := by decide +kernel
theorem dX7_uniqueOfSnapshot_10 : decode cX7_uniqueOfSnapshot 10 = .ok (.aload_n 0, 1) := by decide +kernel
theorem dX7_uniqueOfSnapshot_11 : decode cX7_uniqueOfSnapshot 11 = .ok (.sipush 768, 3) := by decide +kernel
theorem dX7_uniqueOfSnapshot_14 : decode cX7_uniqueOfSnapshot 14 = .ok (.sipush 128, 3) := by decide +kernel
theorem dX7_uniqueOfSnapshot_17 : decode cX7_uniqueOfSnapshot 17 = .ok (.aload_n 0, 1) := by decide +kernel
theorem dX7_uniqueOfSnapshot_18 : decode cX7_uniqueOfSnapshot 18 = .ok (.iload_n 1, 1) := by decide +kernel
theorem dX7_uniqueOfSnapshot_19 : decode cX7_uniqueOfSnapshot 19 = .ok (.invokevirtual 83, 3) := by decide +kernel
theorem dX7_uniqueOfSnapshot_22 : decode cX7_uniqueOfSnapshot 22 = .ok (.imul, 1) := by decide +kernel
theorem dX7_uniqueOfSnapshot_23 : decode cX7_uniqueOfSnapshot 23 = .ok (.iadd, 1) := by decide +kernel
theorem dX7_uniqueOfSnapshot_24 : decode cX7_uniqueOfSnapshot 24 = .ok (.iconst 1, 1) := by decide +kernel
theorem dX7_uniqueOfSnapshot_25 : decode cX7_uniqueOfSnapshot 25 = .ok (.invokevirtual 105, 3) := by decide +kernel
theorem dX7_uniqueOfSnapshot_28 : decode cX7_uniqueOfSnapshot 28 = .ok (.goto 4, 3) := by decide +kernel
theorem dX7_uniqueOfSnapshot_31 : decode cX7_uniqueOfSnapshot 31 = .ok (.iconst 0, 1) := by decide +kernel
theorem dX7_uniqueOfSnapshot_32 : decode cX7_uniqueOfSnapshot 32 = .ok (.ireturn, 1) := by decide +kernel
theorem dX7_newer_0 : decode cX7_newer 0 = .ok (.iconst 0, 1) := by decide +kernel
theorem dX7_newer_1 : decode cX7_newer 1 = .ok (.istore_n 3, 1) := by decide +kernel
theorem dX7_newer_2 : decode cX7_newer 2 = .ok (.aload_n 0, 1) := by decide +kernel
theorem dX7_newer_3 : decode cX7_newer 3 = .ok (.aload_n 0, 1) := by decide +kernel
theorem dX7_newer_4 : decode cX7_newer 4 = .ok (.iload_n 1, 1) := by decide +kernel
theorem dX7_newer_5 : decode cX7_newer 5 = .ok (.invokevirtual 41, 3) := by decide +kernel
theorem dX7_newer_8 : decode cX7_newer 8 = .ok (.iconst 1, 1) := by decide +kernel
theorem dX7_newer_9 : decode cX7_newer 9 = .ok (.invokevirtual 59, 3) := by decide +kernel
theorem dX7_newer_12 : decode cX7_newer 12 = .ok (.istore 4, 2) := by decide +kernel
theorem dX7_newer_14 : decode cX7_newer 14 = .ok (.iconst 0, 1) := by decide +kernel
theorem dX7_newer_15 : decode cX7_newer 15 = .ok (.istore 5, 2) := by decide +kernel
theorem dX7_newer_17 : decode cX7_newer 17 = .ok (.iload 5, 2) := by decide +kernel
theorem dX7_newer_19 : decode cX7_newer 19 = .ok (.sipush 128, 3) := by decide +kernel
theorem dX7_newer_22 : decode cX7_newer 22 = .ok (.if_icmp .ge 61, 3) := by decide +kernel
theorem dX7_newer_25 : decode cX7_newer 25 = .ok (.iload 4, 2) := by decide +kernel
theorem dX7_newer_27 : decode cX7_newer 27 = .ok (.ifCond .eq 56, 3) := by decide +kernel
theorem dX7_newer_30 : decode cX7_newer 30 = .ok (.aload_n 0, 1) := by decide +kernel
theorem dX7_newer_31 : decode cX7_newer 31 = .ok (.getfield 7, 3) := by decide +kernel
theorem dX7_newer_34 : decode cX7_newer 34 = .ok (.iconst 0, 1) := by decide +kernel
theorem dX7_newer_35 : decode cX7_newer 35 = .ok (.sipush 128, 3) := by decide +kernel
theorem dX7_newer_38 : decode cX7_newer 38 = .ok (.iload_n 1, 1) := by decide +kernel
theorem dX7_newer_39 : decode cX7_newer 39 = .ok (.imul, 1) := by decide +kernel
theorem dX7_newer_40 : decode cX7_newer 40 = .ok (.iadd, 1) := by decide +kernel
theorem dX7_newer_41 : decode cX7_newer 41 = .ok (.iload 5, 2) := by decide +kernel
theorem dX7_newer_43 : decode cX7_newer 43 = .ok (.iadd, 1) := by decide +kernel
theorem dX7_newer_44 : decode cX7_newer 44 = .ok (.iaload, 1) := by decide +kernel
theorem dX7_newer_45 : decode cX7_newer 45 = .ok (.iconst 1, 1) := by decide +kernel
theorem dX7_newer_46 : decode cX7_newer 46 = .ok (.isub, 1) := by decide +kernel
theorem dX7_newer_47 : decode cX7_newer 47 = .ok (.istore 6, 2) := by decide +kernel
theorem dX7_newer_49 : decode cX7_newer 49 = .ok (.iload_n 3, 1) := by decide +kernel
theorem dX7_newer_50 : decode cX7_newer 50 = .ok (.iload 6, 2) := by decide +kernel
theorem dX7_newer_52 : decode cX7_newer 52 = .ok (.ifCond .lt 22, 3) := by decide +kernel
theorem dX7_newer_55 : decode cX7_newer 55 = .ok (.aload_n 0, 1) := by decide +kernel
theorem dX7_newer_56 : decode cX7_newer 56 = .ok (.getfield 7, 3) := by decide +kernel
theorem dX7_newer_59 : decode cX7_newer 59 = .ok (.sipush 2558, 3) := by decide +kernel
theorem dX7_newer_62 : decode cX7_newer 62 = .ok (.iload 6, 2) := by decide +kernel
theorem dX7_newer_64 : decode cX7_newer 64 = .ok (.iadd, 1) := by decide +kernel
theorem dX7_newer_65 : decode cX7_newer 65 = .ok (.iaload, 1) := by decide +kernel
theorem dX7_newer_66 : decode cX7_newer 66 = .ok (.iload_n 2, 1) := by decide +kernel
theorem dX7_newer_67 : decode cX7_newer 67 = .ok (.if_icmp .le 7, 3) := by decide +kernel
theorem dX7_newer_70 : decode cX7_newer 70 = .ok (.iconst 1, 1) := by decide +kernel
theorem dX7_newer_71 : decode cX7_newer 71 = .ok (.goto 4, 3) := by decide +kernel
theorem dX7_newer_74 : decode cX7_newer 74 = .ok (.iconst 0, 1) := by decide +kernel
theorem dX7_newer_75 : decode cX7_newer 75 = .ok (.iadd, 1) := by decide +kernel
theorem dX7_newer_76 : decode cX7_newer 76 = .ok (.istore_n 3, 1) := by decide +kernel
theorem dX7_newer_77 : decode cX7_newer 77 = .ok (.iinc 5 1, 3) := by decide +kernel
theorem dX7_newer_80 : decode cX7_newer 80 = .ok (.goto (-63), 3) := by decide +kernel
theorem dX7_newer_83 : decode cX7_newer 83 = .ok (.iload_n 3, 1) := by decide +kernel
theorem dX7_newer_84 : decode cX7_newer 84 = .ok (.ireturn, 1) := by decide +kernel
theorem dX7_birth_0 : decode cX7_birth 0 = .ok (.iload_n 1, 1) := by decide +kernel
theorem dX7_birth_1 : decode cX7_birth 1 = .ok (.iconst 0, 1) := by decide +kernel
theorem dX7_birth_2 : decode cX7_birth 2 = .ok (.bipush 127, 2) := by decide +kernel
theorem dX7_birth_4 : decode cX7_birth 4 = .ok (.invokestatic 26, 3) := by decide +kernel
theorem dX7_birth_7 : decode cX7_birth 7 = .ok (.istore_n 2, 1) := by decide +kernel
theorem dX7_birth_8 : decode cX7_birth 8 = .ok (.aload_n 0, 1) := by decide +kernel
theorem dX7_birth_9 : decode cX7_birth 9 = .ok (.iload_n 2, 1) := by decide +kernel
theorem dX7_birth_10 : decode cX7_birth 10 = .ok (.iload_n 2, 1) := by decide +kernel
theorem dX7_birth_11 : decode cX7_birth 11 = .ok (.ifCond .eq 15, 3) := by decide +kernel
theorem dX7_birth_14 : decode cX7_birth 14 = .ok (.aload_n 0, 1) := by decide +kernel
theorem dX7_birth_15 : decode cX7_birth 15 = .ok (.iload_n 1, 1) := by decide +kernel
theorem dX7_birth_16 : decode cX7_birth 16 = .ok (.invokevirtual 70, 3) := by decide +kernel
theorem dX7_birth_19 : decode cX7_birth 19 = .ok (.ifCond .eq 7, 3) := by decide +kernel
theorem dX7_birth_22 : decode cX7_birth 22 = .ok (.iconst 1, 1) := by decide +kernel
theorem dX7_birth_23 : decode cX7_birth 23 = .ok (.goto 4, 3) := by decide +kernel
theorem dX7_birth_26 : decode cX7_birth 26 = .ok (.iconst 0, 1) := by decide +kernel
theorem dX7_birth_27 : decode cX7_birth 27 = .ok (.invokevirtual 59, 3) := by decide +kernel
theorem dX7_birth_30 : decode cX7_birth 30 = .ok (.ifCond .eq 16, 3) := by decide +kernel
theorem dX7_birth_33 : decode cX7_birth 33 = .ok (.aload_n 0, 1) := by decide +kernel
theorem dX7_birth_34 : decode cX7_birth 34 = .ok (.getfield 7, 3) := by decide +kernel
theorem dX7_birth_37 : decode cX7_birth 37 = .ok (.sipush 2558, 3) := by decide +kernel
theorem dX7_birth_40 : decode cX7_birth 40 = .ok (.iload_n 1, 1) := by decide +kernel
theorem dX7_birth_41 : decode cX7_birth 41 = .ok (.iadd, 1) := by decide +kernel
theorem dX7_birth_42 : decode cX7_birth 42 = .ok (.iaload, 1) := by decide +kernel
theorem dX7_birth_43 : decode cX7_birth 43 = .ok (.goto 4, 3) := by decide +kernel
theorem dX7_birth_46 : decode cX7_birth 46 = .ok (.iconst 0, 1) := by decide +kernel
theorem dX7_birth_47 : decode cX7_birth 47 = .ok (.ireturn, 1) := by decide +kernel
theorem dX7_references_0 : decode cX7_references 0 = .ok (.aload_n 0, 1) := by decide +kernel
theorem dX7_references_1 : decode cX7_references 1 = .ok (.iload_n 1, 1) := by decide +kernel
theorem dX7_references_2 : decode cX7_references 2 = .ok (.iconst 0, 1) := by decide +kernel
theorem dX7_references_3 : decode cX7_references 3 = .ok (.bipush 127, 2) := by decide +kernel
theorem dX7_references_5 : decode cX7_references 5 = .ok (.invokestatic 26, 3) := by decide +kernel
theorem dX7_references_8 : decode cX7_references 8 = .ok (.iconst 1, 1) := by decide +kernel
theorem dX7_references_9 : decode cX7_references 9 = .ok (.invokevirtual 59, 3) := by decide +kernel
theorem dX7_references_12 : decode cX7_references 12 = .ok (.ifCond .eq 16, 3) := by decide +kernel
theorem dX7_references_15 : decode cX7_references 15 = .ok (.aload_n 0, 1) := by decide +kernel
theorem dX7_references_16 : decode cX7_references 16 = .ok (.getfield 7, 3) := by decide +kernel
theorem dX7_references_19 : decode cX7_references 19 = .ok (.sipush 2814, 3) := by decide +kernel
theorem dX7_references_22 : decode cX7_references 22 = .ok (.iload_n 1, 1) := by decide +kernel
theorem dX7_references_23 : decode cX7_references 23 = .ok (.iadd, 1) := by decide +kernel
theorem dX7_references_24 : decode cX7_references 24 = .ok (.iaload, 1) := by decide +kernel
theorem dX7_references_25 : decode cX7_references 25 = .ok (.goto 4, 3) := by decide +kernel
theorem dX7_references_28 : decode cX7_references 28 = .ok (.iconst 0, 1) := by decide +kernel
theorem dX7_references_29 : decode cX7_references 29 = .ok (.ireturn, 1) := by decide +kernel
theorem dX7_free_0 : decode cX7_free 0 = .ok (.aload_n 0, 1) := by decide +kernel
theorem dX7_free_1 : decode cX7_free 1 = .ok (.iconst 0, 1) := by decide +kernel
theorem dX7_free_2 : decode cX7_free 2 = .ok (.putfield 22, 3) := by decide +kernel
theorem dX7_free_5 : decode cX7_free 5 = .ok (.aload_n 0, 1) := by decide +kernel
theorem dX7_free_6 : decode cX7_free 6 = .ok (.iconst 0, 1) := by decide +kernel
theorem dX7_free_7 : decode cX7_free 7 = .ok (.sipush 128, 3) := by decide +kernel
theorem dX7_free_10 : decode cX7_free 10 = .ok (.invokevirtual 37, 3) := by decide +kernel
theorem dX7_free_13 : decode cX7_free 13 = .ok (.ireturn, 1) := by decide +kernel
theorem dX7_pending_0 : decode cX7_pending 0 = .ok (.aload_n 0, 1) := by decide +kernel
theorem dX7_pending_1 : decode cX7_pending 1 = .ok (.iconst 0, 1) := by decide +kernel
theorem dX7_pending_2 : decode cX7_pending 2 = .ok (.putfield 22, 3) := by decide +kernel
theorem dX7_pending_5 : decode cX7_pending 5 = .ok (.iconst 0, 1) := by decide +kernel
theorem dX7_pending_6 : decode cX7_pending 6 = .ok (.istore_n 1, 1) := by decide +kernel
theorem dX7_pending_7 : decode cX7_pending 7 = .ok (.iconst 0, 1) := by decide +kernel
theorem dX7_pending_8 : decode cX7_pending 8 = .ok (.istore_n 2, 1) := by decide +kernel
theorem dX7_pending_9 : decode cX7_pending 9 = .ok (.iload_n 2, 1) := by decide +kernel
theorem dX7_pending_10 : decode cX7_pending 10 = .ok (.sipush 128, 3) := by decide +kernel
theorem dX7_pending_13 : decode cX7_pending 13 = .ok (.if_icmp .ge 22, 3) := by decide +kernel
theorem dX7_pending_16 : decode cX7_pending 16 = .ok (.iload_n 1, 1) := by decide +kernel
theorem dX7_pending_17 : decode cX7_pending 17 = .ok (.aload_n 0, 1) := by decide +kernel
theorem dX7_pending_18 : decode cX7_pending 18 = .ok (.getfield 7, 3) := by decide +kernel
theorem dX7_pending_21 : decode cX7_pending 21 = .ok (.sipush 2686, 3) := by decide +kernel
theorem dX7_pending_24 : decode cX7_pending 24 = .ok (.iload_n 2, 1) := by decide +kernel
theorem dX7_pending_25 : decode cX7_pending 25 = .ok (.iadd, 1) := by decide +kernel
theorem dX7_pending_26 : decode cX7_pending 26 = .ok (.iaload, 1) := by decide +kernel
theorem dX7_pending_27 : decode cX7_pending 27 = .ok (.iadd, 1) := by decide +kernel
theorem dX7_pending_28 : decode cX7_pending 28 = .ok (.istore_n 1, 1) := by decide +kernel
theorem dX7_pending_29 : decode cX7_pending 29 = .ok (.iinc 2 1, 3) := by decide +kernel
theorem dX7_pending_32 : decode cX7_pending 32 = .ok (.goto (-23), 3) := by decide +kernel
theorem dX7_pending_35 : decode cX7_pending 35 = .ok (.iload_n 1, 1) := by decide +kernel
theorem dX7_pending_36 : decode cX7_pending 36 = .ok (.ireturn, 1) := by decide +kernel
theorem dX7_isRegion_0 : decode cX7_isRegion 0 = .ok (.aload_n 0, 1) := by decide +kernel
theorem dX7_isRegion_1 : decode cX7_isRegion 1 = .ok (.iload_n 1, 1) := by decide +kernel
theorem dX7_isRegion_2 : decode cX7_isRegion 2 = .ok (.iconst 0, 1) := by decide +kernel
theorem dX7_isRegion_3 : decode cX7_isRegion 3 = .ok (.iconst 3, 1) := by decide +kernel
theorem dX7_isRegion_4 : decode cX7_isRegion 4 = .ok (.invokestatic 26, 3) := by decide +kernel
theorem dX7_isRegion_7 : decode cX7_isRegion 7 = .ok (.iconst 1, 1) := by decide +kernel
theorem dX7_isRegion_8 : decode cX7_isRegion 8 = .ok (.invokevirtual 59, 3) := by decide +kernel
theorem dX7_isRegion_11 : decode cX7_isRegion 11 = .ok (.ireturn, 1) := by decide +kernel
theorem dX7_freeIn_0 : decode cX7_freeIn 0 = .ok (.aload_n 0, 1) := by decide +kernel
theorem dX7_freeIn_1 : decode cX7_freeIn 1 = .ok (.iload_n 1, 1) := by decide +kernel
theorem dX7_freeIn_2 : decode cX7_freeIn 2 = .ok (.invokevirtual 109, 3) := by decide +kernel
theorem dX7_freeIn_5 : decode cX7_freeIn 5 = .ok (.ifCond .eq 21, 3) := by decide +kernel
theorem dX7_freeIn_8 : decode cX7_freeIn 8 = .ok (.aload_n 0, 1) := by decide +kernel
theorem dX7_freeIn_9 : decode cX7_freeIn 9 = .ok (.bipush 32, 2) := by decide +kernel
theorem dX7_freeIn_11 : decode cX7_freeIn 11 = .ok (.iload_n 1, 1) := by decide +kernel
theorem dX7_freeIn_12 : decode cX7_freeIn 12 = .ok (.imul, 1) := by decide +kernel
theorem dX7_freeIn_13 : decode cX7_freeIn 13 = .ok (.bipush 32, 2) := by decide +kernel
theorem dX7_freeIn_15 : decode cX7_freeIn 15 = .ok (.iload_n 1, 1) := by decide +kernel
theorem dX7_freeIn_16 : decode cX7_freeIn 16 = .ok (.imul, 1) := by decide +kernel
theorem dX7_freeIn_17 : decode cX7_freeIn 17 = .ok (.bipush 32, 2) := by decide +kernel
theorem dX7_freeIn_19 : decode cX7_freeIn 19 = .ok (.iadd, 1) := by decide +kernel
theorem dX7_freeIn_20 : decode cX7_freeIn 20 = .ok (.invokevirtual 37, 3) := by decide +kernel
theorem dX7_freeIn_23 : decode cX7_freeIn 23 = .ok (.goto 4, 3) := by decide +kernel
theorem dX7_freeIn_26 : decode cX7_freeIn 26 = .ok (.iconst 0, 1) := by decide +kernel
theorem dX7_freeIn_27 : decode cX7_freeIn 27 = .ok (.ireturn, 1) := by decide +kernel
theorem dX7_logEntries_0 : decode cX7_logEntries 0 = .ok (.aload_n 0, 1) := by decide +kernel
theorem dX7_logEntries_1 : decode cX7_logEntries 1 = .ok (.iload_n 1, 1) := by decide +kernel
theorem dX7_logEntries_2 : decode cX7_logEntries 2 = .ok (.invokevirtual 109, 3) := by decide +kernel
theorem dX7_logEntries_5 : decode cX7_logEntries 5 = .ok (.ifCond .eq 16, 3) := by decide +kernel
theorem dX7_logEntries_8 : decode cX7_logEntries 8 = .ok (.aload_n 0, 1) := by decide +kernel
theorem dX7_logEntries_9 : decode cX7_logEntries 9 = .ok (.getfield 7, 3) := by decide +kernel
theorem dX7_logEntries_12 : decode cX7_logEntries 12 = .ok (.sipush 3390, 3) := by decide +kernel
theorem dX7_logEntries_15 : decode cX7_logEntries 15 = .ok (.iload_n 1, 1) := by decide +kernel
theorem dX7_logEntries_16 : decode cX7_logEntries 16 = .ok (.iadd, 1) := by decide +kernel
theorem dX7_logEntries_17 : decode cX7_logEntries 17 = .ok (.iaload, 1) := by decide +kernel
theorem dX7_logEntries_18 : decode cX7_logEntries 18 = .ok (.goto 4, 3) := by decide +kernel
theorem dX7_logEntries_21 : decode cX7_logEntries 21 = .ok (.iconst 0, 1) := by decide +kernel
theorem dX7_logEntries_22 : decode cX7_logEntries 22 = .ok (.ireturn, 1) := by decide +kernel
theorem dX7_isEntry_0 : decode cX7_isEntry 0 = .ok (.aload_n 0, 1) := by decide +kernel
theorem dX7_isEntry_1 : decode cX7_isEntry 1 = .ok (.iload_n 1, 1) := by decide +kernel
theorem dX7_isEntry_2 : decode cX7_isEntry 2 = .ok (.iconst 0, 1) := by decide +kernel
theorem dX7_isEntry_3 : decode cX7_isEntry 3 = .ok (.iconst 3, 1) := by decide +kernel
theorem dX7_isEntry_4 : decode cX7_isEntry 4 = .ok (.invokestatic 26, 3) := by decide +kernel
theorem dX7_isEntry_7 : decode cX7_isEntry 7 = .ok (.ifCond .eq 27, 3) := by decide +kernel
theorem dX7_isEntry_10 : decode cX7_isEntry 10 = .ok (.iload_n 2, 1) := by decide +kernel
theorem dX7_isEntry_11 : decode cX7_isEntry 11 = .ok (.iconst 0, 1) := by decide +kernel
theorem dX7_isEntry_12 : decode cX7_isEntry 12 = .ok (.aload_n 0, 1) := by decide +kernel
theorem dX7_isEntry_13 : decode cX7_isEntry 13 = .ok (.getfield 7, 3) := by decide +kernel
theorem dX7_isEntry_16 : decode cX7_isEntry 16 = .ok (.sipush 3390, 3) := by decide +kernel
theorem dX7_isEntry_19 : decode cX7_isEntry 19 = .ok (.iload_n 1, 1) := by decide +kernel
theorem dX7_isEntry_20 : decode cX7_isEntry 20 = .ok (.iadd, 1) := by decide +kernel
theorem dX7_isEntry_21 : decode cX7_isEntry 21 = .ok (.iaload, 1) := by decide +kernel
theorem dX7_isEntry_22 : decode cX7_isEntry 22 = .ok (.iconst 1, 1) := by decide +kernel
theorem dX7_isEntry_23 : decode cX7_isEntry 23 = .ok (.isub, 1) := by decide +kernel
theorem dX7_isEntry_24 : decode cX7_isEntry 24 = .ok (.invokestatic 26, 3) := by decide +kernel
theorem dX7_isEntry_27 : decode cX7_isEntry 27 = .ok (.ifCond .eq 7, 3) := by decide +kernel
theorem dX7_isEntry_30 : decode cX7_isEntry 30 = .ok (.iconst 1, 1) := by decide +kernel
theorem dX7_isEntry_31 : decode cX7_isEntry 31 = .ok (.goto 4, 3) := by decide +kernel
theorem dX7_isEntry_34 : decode cX7_isEntry 34 = .ok (.iconst 0, 1) := by decide +kernel
theorem dX7_isEntry_35 : decode cX7_isEntry 35 = .ok (.iconst 1, 1) := by decide +kernel
theorem dX7_isEntry_36 : decode cX7_isEntry 36 = .ok (.invokevirtual 59, 3) := by decide +kernel
theorem dX7_isEntry_39 : decode cX7_isEntry 39 = .ok (.ireturn, 1) := by decide +kernel
theorem dX7_runAt_0 : decode cX7_runAt 0 = .ok (.aload_n 0, 1) := by decide +kernel
theorem dX7_runAt_1 : decode cX7_runAt 1 = .ok (.iload_n 1, 1) := by decide +kernel
theorem dX7_runAt_2 : decode cX7_runAt 2 = .ok (.iload_n 2, 1) := by decide +kernel
theorem dX7_runAt_3 : decode cX7_runAt 3 = .ok (.invokevirtual 112, 3) := by decide +kernel
theorem dX7_runAt_6 : decode cX7_runAt 6 = .ok (.ifCond .ne 5, 3) := by decide +kernel
theorem dX7_runAt_9 : decode cX7_runAt 9 = .ok (.iconst 0, 1) := by decide +kernel
theorem dX7_runAt_10 : decode cX7_runAt 10 = .ok (.ireturn, 1) := by decide +kernel
theorem dX7_runAt_11 : decode cX7_runAt 11 = .ok (.aload_n 0, 1) := by decide +kernel
theorem dX7_runAt_12 : decode cX7_runAt 12 = .ok (.getfield 7, 3) := by decide +kernel
theorem dX7_runAt_15 : decode cX7_runAt 15 = .ok (.sipush 3070, 3) := by decide +kernel
theorem dX7_runAt_18 : decode cX7_runAt 18 = .ok (.bipush 80, 2) := by decide +kernel
theorem dX7_runAt_20 : decode cX7_runAt 20 = .ok (.iload_n 1, 1) := by decide +kernel
theorem dX7_runAt_21 : decode cX7_runAt 21 = .ok (.imul, 1) := by decide +kernel
theorem dX7_runAt_22 : decode cX7_runAt 22 = .ok (.iadd, 1) := by decide +kernel
theorem dX7_runAt_23 : decode cX7_runAt 23 = .ok (.iload_n 2, 1) := by decide +kernel
theorem dX7_runAt_24 : decode cX7_runAt 24 = .ok (.iadd, 1) := by decide +kernel
theorem dX7_runAt_25 : decode cX7_runAt 25 = .ok (.iaload, 1) := by decide +kernel
theorem dX7_runAt_26 : decode cX7_runAt 26 = .ok (.istore_n 3, 1) := by decide +kernel
theorem dX7_runAt_27 : decode cX7_runAt 27 = .ok (.iload_n 3, 1) := by decide +kernel
theorem dX7_runAt_28 : decode cX7_runAt 28 = .ok (.ifCond .ge 8, 3) := by decide +kernel
theorem dX7_runAt_31 : decode cX7_runAt 31 = .ok (.iload_n 3, 1) := by decide +kernel
theorem dX7_runAt_32 : decode cX7_runAt 32 = .ok (.ineg, 1) := by decide +kernel
theorem dX7_runAt_33 : decode cX7_runAt 33 = .ok (.goto 4, 3) := by decide +kernel
theorem dX7_runAt_36 : decode cX7_runAt 36 = .ok (.iload_n 3, 1) := by decide +kernel
theorem dX7_runAt_37 : decode cX7_runAt 37 = .ok (.ireturn, 1) := by decide +kernel
theorem dX7_allocates_0 : decode cX7_allocates 0 = .ok (.aload_n 0, 1) := by decide +kernel
theorem dX7_allocates_1 : decode cX7_allocates 1 = .ok (.iload_n 1, 1) := by decide +kernel
theorem dX7_allocates_2 : decode cX7_allocates 2 = .ok (.iload_n 2, 1) := by decide +kernel
theorem dX7_allocates_3 : decode cX7_allocates 3 = .ok (.invokevirtual 112, 3) := by decide +kernel
theorem dX7_allocates_6 : decode cX7_allocates 6 = .ok (.ifCond .eq 25, 3) := by decide +kernel
theorem dX7_allocates_9 : decode cX7_allocates 9 = .ok (.aload_n 0, 1) := by decide +kernel
theorem dX7_allocates_10 : decode cX7_allocates 10 = .ok (.getfield 7, 3) := by decide +kernel
theorem dX7_allocates_13 : decode cX7_allocates 13 = .ok (.sipush 3070, 3) := by decide +kernel
theorem dX7_allocates_16 : decode cX7_allocates 16 = .ok (.bipush 80, 2) := by decide +kernel
theorem dX7_allocates_18 : decode cX7_allocates 18 = .ok (.iload_n 1, 1) := by decide +kernel
theorem dX7_allocates_19 : decode cX7_allocates 19 = .ok (.imul, 1) := by decide +kernel
theorem dX7_allocates_20 : decode cX7_allocates 20 = .ok (.iadd, 1) := by decide +kernel
theorem dX7_allocates_21 : decode cX7_allocates 21 = .ok (.iload_n 2, 1) := by decide +kernel
theorem dX7_allocates_22 : decode cX7_allocates 22 = .ok (.iadd, 1) := by decide +kernel
theorem dX7_allocates_23 : decode cX7_allocates 23 = .ok (.iaload, 1) := by decide +kernel
theorem dX7_allocates_24 : decode cX7_allocates 24 = .ok (.ifCond .le 7, 3) := by decide +kernel
theorem dX7_allocates_27 : decode cX7_allocates 27 = .ok (.iconst 1, 1) := by decide +kernel
theorem dX7_allocates_28 : decode cX7_allocates 28 = .ok (.goto 4, 3) := by decide +kernel
theorem dX7_allocates_31 : decode cX7_allocates 31 = .ok (.iconst 0, 1) := by decide +kernel
theorem dX7_allocates_32 : decode cX7_allocates 32 = .ok (.ireturn, 1) := by decide +kernel
theorem dX7_replay_0 : decode cX7_replay 0 = .ok (.aload_n 0, 1) := by decide +kernel
theorem dX7_replay_1 : decode cX7_replay 1 = .ok (.iload_n 1, 1) := by decide +kernel
theorem dX7_replay_2 : decode cX7_replay 2 = .ok (.invokevirtual 109, 3) := by decide +kernel
theorem dX7_replay_5 : decode cX7_replay 5 = .ok (.ifCond .ne 5, 3) := by decide +kernel
theorem dX7_replay_8 : decode cX7_replay 8 = .ok (.iconst 0, 1) := by decide +kernel
theorem dX7_replay_9 : decode cX7_replay 9 = .ok (.ireturn, 1) := by decide +kernel
theorem dX7_replay_10 : decode cX7_replay 10 = .ok (.iconst 0, 1) := by decide +kernel
theorem dX7_replay_11 : decode cX7_replay 11 = .ok (.istore_n 2, 1) := by decide +kernel
theorem dX7_replay_12 : decode cX7_replay 12 = .ok (.iload_n 2, 1) := by decide +kernel
theorem dX7_replay_13 : decode cX7_replay 13 = .ok (.bipush 32, 2) := by decide +kernel
theorem dX7_replay_15 : decode cX7_replay 15 = .ok (.if_icmp .ge 16, 3) := by decide +kernel
theorem dX7_replay_18 : decode cX7_replay 18 = .ok (.aload_n 0, 1) := by decide +kernel
theorem dX7_replay_19 : decode cX7_replay 19 = .ok (.getfield 16, 3) := by decide +kernel
theorem dX7_replay_22 : decode cX7_replay 22 = .ok (.iload_n 2, 1) := by decide +kernel
theorem dX7_replay_23 : decode cX7_replay 23 = .ok (.iconst 0, 1) := by decide +kernel
theorem dX7_replay_24 : decode cX7_replay 24 = .ok (.iastore, 1) := by decide +kernel
theorem dX7_replay_25 : decode cX7_replay 25 = .ok (.iinc 2 1, 3) := by decide +kernel
theorem dX7_replay_28 : decode cX7_replay 28 = .ok (.goto (-16), 3) := by decide +kernel
theorem dX7_replay_31 : decode cX7_replay 31 = .ok (.iconst 0, 1) := by decide +kernel
theorem dX7_replay_32 : decode cX7_replay 32 = .ok (.istore_n 2, 1) := by decide +kernel
theorem dX7_replay_33 : decode cX7_replay 33 = .ok (.iload_n 2, 1) := by decide +kernel
theorem dX7_replay_34 : decode cX7_replay 34 = .ok (.aload_n 0, 1) := by decide +kernel
theorem dX7_replay_35 : decode cX7_replay 35 = .ok (.getfield 7, 3) := by decide +kernel
theorem dX7_replay_38 : decode cX7_replay 38 = .ok (.sipush 3390, 3) := by decide +kernel
theorem dX7_replay_41 : decode cX7_replay 41 = .ok (.iload_n 1, 1) := by decide +kernel
theorem dX7_replay_42 : decode cX7_replay 42 = .ok (.iadd, 1) := by decide +kernel
theorem dX7_replay_43 : decode cX7_replay 43 = .ok (.iaload, 1) := by decide +kernel
theorem dX7_replay_44 : decode cX7_replay 44 = .ok (.if_icmp .ge 83, 3) := by decide +kernel
theorem dX7_replay_47 : decode cX7_replay 47 = .ok (.aload_n 0, 1) := by decide +kernel
theorem dX7_replay_48 : decode cX7_replay 48 = .ok (.getfield 7, 3) := by decide +kernel
theorem dX7_replay_51 : decode cX7_replay 51 = .ok (.sipush 3070, 3) := by decide +kernel
theorem dX7_replay_54 : decode cX7_replay 54 = .ok (.bipush 80, 2) := by decide +kernel
theorem dX7_replay_56 : decode cX7_replay 56 = .ok (.iload_n 1, 1) := by decide +kernel
theorem dX7_replay_57 : decode cX7_replay 57 = .ok (.imul, 1) := by decide +kernel
theorem dX7_replay_58 : decode cX7_replay 58 = .ok (.iadd, 1) := by decide +kernel
theorem dX7_replay_59 : decode cX7_replay 59 = .ok (.iload_n 2, 1) := by decide +kernel
theorem dX7_replay_60 : decode cX7_replay 60 = .ok (.iadd, 1) := by decide +kernel
theorem dX7_replay_61 : decode cX7_replay 61 = .ok (.iaload, 1) := by decide +kernel
theorem dX7_replay_62 : decode cX7_replay 62 = .ok (.istore_n 3, 1) := by decide +kernel
theorem dX7_replay_63 : decode cX7_replay 63 = .ok (.iload_n 3, 1) := by decide +kernel
theorem dX7_replay_64 : decode cX7_replay 64 = .ok (.ifCond .ge 8, 3) := by decide +kernel
theorem dX7_replay_67 : decode cX7_replay 67 = .ok (.iload_n 3, 1) := by decide +kernel
theorem dX7_replay_68 : decode cX7_replay 68 = .ok (.ineg, 1) := by decide +kernel
theorem dX7_replay_69 : decode cX7_replay 69 = .ok (.goto 4, 3) := by decide +kernel
theorem dX7_replay_72 : decode cX7_replay 72 = .ok (.iload_n 3, 1) := by decide +kernel
theorem dX7_replay_73 : decode cX7_replay 73 = .ok (.istore 4, 2) := by decide +kernel
theorem dX7_replay_75 : decode cX7_replay 75 = .ok (.iconst 0, 1) := by decide +kernel
theorem dX7_replay_76 : decode cX7_replay 76 = .ok (.istore 5, 2) := by decide +kernel
theorem dX7_replay_78 : decode cX7_replay 78 = .ok (.iload 5, 2) := by decide +kernel
theorem dX7_replay_80 : decode cX7_replay 80 = .ok (.iload 4, 2) := by decide +kernel
theorem dX7_replay_82 : decode cX7_replay 82 = .ok (.bipush 100, 2) := by decide +kernel
theorem dX7_replay_84 : decode cX7_replay 84 = .ok (.irem, 1) := by decide +kernel
theorem dX7_replay_85 : decode cX7_replay 85 = .ok (.if_icmp .ge 36, 3) := by decide +kernel
theorem dX7_replay_88 : decode cX7_replay 88 = .ok (.aload_n 0, 1) := by decide +kernel
theorem dX7_replay_89 : decode cX7_replay 89 = .ok (.getfield 16, 3) := by decide +kernel
theorem dX7_replay_92 : decode cX7_replay 92 = .ok (.iload 4, 2) := by decide +kernel
theorem dX7_replay_94 : decode cX7_replay 94 = .ok (.bipush 100, 2) := by decide +kernel
theorem dX7_replay_96 : decode cX7_replay 96 = .ok (.idiv, 1) := by decide +kernel
theorem dX7_replay_97 : decode cX7_replay 97 = .ok (.bipush 32, 2) := by decide +kernel
theorem dX7_replay_99 : decode cX7_replay 99 = .ok (.iload_n 1, 1) := by decide +kernel
theorem dX7_replay_100 : decode cX7_replay 100 = .ok (.imul, 1) := by decide +kernel
theorem dX7_replay_101 : decode cX7_replay 101 = .ok (.isub, 1) := by decide +kernel
theorem dX7_replay_102 : decode cX7_replay 102 = .ok (.iload 5, 2) := by decide +kernel
theorem dX7_replay_104 : decode cX7_replay 104 = .ok (.iadd, 1) := by decide +kernel
theorem dX7_replay_105 : decode cX7_replay 105 = .ok (.iload_n 3, 1) := by decide +kernel
theorem dX7_replay_106 : decode cX7_replay 106 = .ok (.ifCond .ge 7, 3) := by decide +kernel
theorem dX7_replay_109 : decode cX7_replay 109 = .ok (.iconst 0, 1) := by decide +kernel
theorem dX7_replay_110 : decode cX7_replay 110 = .ok (.goto 4, 3) := by decide +kernel
theorem dX7_replay_113 : decode cX7_replay 113 = .ok (.iconst 1, 1) := by decide +kernel
theorem dX7_replay_114 : decode cX7_replay 114 = .ok (.iastore, 1) := by decide +kernel
theorem dX7_replay_115 : decode cX7_replay 115 = .ok (.iinc 5 1, 3) := by decide +kernel
theorem dX7_replay_118 : decode cX7_replay 118 = .ok (.goto (-40), 3) := by decide +kernel
theorem dX7_replay_121 : decode cX7_replay 121 = .ok (.iinc 2 1, 3) := by decide +kernel
theorem dX7_replay_124 : decode cX7_replay 124 = .ok (.goto (-91), 3) := by decide +kernel
theorem dX7_replay_127 : decode cX7_replay 127 = .ok (.iconst 0, 1) := by decide +kernel
theorem dX7_replay_128 : decode cX7_replay 128 = .ok (.istore_n 2, 1) := by decide +kernel
theorem dX7_replay_129 : decode cX7_replay 129 = .ok (.iconst 0, 1) := by decide +kernel
theorem dX7_replay_130 : decode cX7_replay 130 = .ok (.istore_n 3, 1) := by decide +kernel
theorem dX7_replay_131 : decode cX7_replay 131 = .ok (.iload_n 3, 1) := by decide +kernel
theorem dX7_replay_132 : decode cX7_replay 132 = .ok (.bipush 32, 2) := by decide +kernel
theorem dX7_replay_134 : decode cX7_replay 134 = .ok (.if_icmp .ge 18, 3) := by decide +kernel
theorem dX7_replay_137 : decode cX7_replay 137 = .ok (.iload_n 2, 1) := by decide +kernel
theorem dX7_replay_138 : decode cX7_replay 138 = .ok (.aload_n 0, 1) := by decide +kernel
theorem dX7_replay_139 : decode cX7_replay 139 = .ok (.getfield 16, 3) := by decide +kernel
theorem dX7_replay_142 : decode cX7_replay 142 = .ok (.iload_n 3, 1) := by decide +kernel
theorem dX7_replay_143 : decode cX7_replay 143 = .ok (.iaload, 1) := by decide +kernel
theorem dX7_replay_144 : decode cX7_replay 144 = .ok (.iadd, 1) := by decide +kernel
theorem dX7_replay_145 : decode cX7_replay 145 = .ok (.istore_n 2, 1) := by decide +kernel
theorem dX7_replay_146 : decode cX7_replay 146 = .ok (.iinc 3 1, 3) := by decide +kernel
theorem dX7_replay_149 : decode cX7_replay 149 = .ok (.goto (-18), 3) := by decide +kernel
theorem dX7_replay_152 : decode cX7_replay 152 = .ok (.iload_n 2, 1) := by decide +kernel
theorem dX7_replay_153 : decode cX7_replay 153 = .ok (.ireturn, 1) := by decide +kernel
theorem dX7_condensed_0 : decode cX7_condensed 0 = .ok (.aload_n 0, 1) := by decide +kernel
theorem dX7_condensed_1 : decode cX7_condensed 1 = .ok (.iconst 0, 1) := by decide +kernel
theorem dX7_condensed_2 : decode cX7_condensed 2 = .ok (.putfield 22, 3) := by decide +kernel
theorem dX7_condensed_5 : decode cX7_condensed 5 = .ok (.aload_n 0, 1) := by decide +kernel
theorem dX7_condensed_6 : decode cX7_condensed 6 = .ok (.getfield 7, 3) := by decide +kernel
theorem dX7_condensed_9 : decode cX7_condensed 9 = .ok (.sipush 3396, 3) := by decide +kernel
theorem dX7_condensed_12 : decode cX7_condensed 12 = .ok (.iaload, 1) := by decide +kernel
theorem dX7_condensed_13 : decode cX7_condensed 13 = .ok (.ireturn, 1) := by decide +kernel
theorem dJ7_fill_53178_0 : decode cJ7_fill_53178 0 = .ok (.iconst 0, 1) := by decide +kernel
theorem dJ7_fill_53178_1 : decode cJ7_fill_53178 1 = .ok (.istore_n 2, 1) := by decide +kernel
theorem dJ7_fill_53178_2 : decode cJ7_fill_53178 2 = .ok (.aload_n 0, 1) := by decide +kernel
theorem dJ7_fill_53178_3 : decode cJ7_fill_53178 3 = .ok (.arraylength, 1) := by decide +kernel
theorem dJ7_fill_53178_4 : decode cJ7_fill_53178 4 = .ok (.istore_n 3, 1) := by decide +kernel
theorem dJ7_fill_53178_5 : decode cJ7_fill_53178 5 = .ok (.iload_n 2, 1) := by decide +kernel
theorem dJ7_fill_53178_6 : decode cJ7_fill_53178 6 = .ok (.iload_n 3, 1) := by decide +kernel
theorem dJ7_fill_53178_7 : decode cJ7_fill_53178 7 = .ok (.if_icmp .ge 13, 3) := by decide +kernel
theorem dJ7_fill_53178_10 : decode cJ7_fill_53178 10 = .ok (.aload_n 0, 1) := by decide +kernel
theorem dJ7_fill_53178_11 : decode cJ7_fill_53178 11 = .ok (.iload_n 2, 1) := by decide +kernel
theorem dJ7_fill_53178_12 : decode cJ7_fill_53178 12 = .ok (.iload_n 1, 1) := by decide +kernel
theorem dJ7_fill_53178_13 : decode cJ7_fill_53178 13 = .ok (.iastore, 1) := by decide +kernel
theorem dJ7_fill_53178_14 : decode cJ7_fill_53178 14 = .ok (.iinc 2 1, 3) := by decide +kernel
theorem dJ7_fill_53178_17 : decode cJ7_fill_53178 17 = .ok (.goto (-12), 3) := by decide +kernel
theorem dJ7_fill_53178_20 : decode cJ7_fill_53178 20 = .ok (.return_, 1) := by decide +kernel
theorem dL_write_0 : decode cL_write 0 = .ok (.aload 5, 2) := by decide +kernel
theorem dL_write_2 : decode cL_write 2 = .ok (.iconst 0, 1) := by decide +kernel
theorem dL_write_3 : decode cL_write 3 = .ok (.aload_n 0, 1) := by decide +kernel
theorem dL_write_4 : decode cL_write 4 = .ok (.iload_n 1, 1) := by decide +kernel
theorem dL_write_5 : decode cL_write 5 = .ok (.iload_n 2, 1) := by decide +kernel
theorem dL_write_6 : decode cL_write 6 = .ok (.iload_n 3, 1) := by decide +kernel
theorem dL_write_7 : decode cL_write 7 = .ok (.iload 4, 2) := by decide +kernel
theorem dL_write_9 : decode cL_write 9 = .ok (.invokevirtual 7, 3) := by decide +kernel
theorem dL_write_12 : decode cL_write 12 = .ok (.i2l, 1) := by decide +kernel
theorem dL_write_13 : decode cL_write 13 = .ok (.lastore, 1) := by decide +kernel
theorem dL_write_14 : decode cL_write 14 = .ok (.goto 11, 3) := by decide +kernel
theorem dL_write_17 : decode cL_write 17 = .ok (.astore 6, 2) := by decide +kernel
theorem dL_write_19 : decode cL_write 19 = .ok (.iconst 1, 1) := by decide +kernel
theorem dL_write_20 : decode cL_write 20 = .ok (.ireturn, 1) := by decide +kernel
theorem dL_write_21 : decode cL_write 21 = .ok (.astore 6, 2) := by decide +kernel
theorem dL_write_23 : decode cL_write 23 = .ok (.iconst 2, 1) := by decide +kernel
theorem dL_write_24 : decode cL_write 24 = .ok (.ireturn, 1) := by decide +kernel
theorem dL_write_25 : decode cL_write 25 = .ok (.iconst 0, 1) := by decide +kernel
theorem dL_write_26 : decode cL_write 26 = .ok (.ireturn, 1) := by decide +kernel
theorem dL_read_0 : decode cL_read 0 = .ok (.aload 4, 2) := by decide +kernel
theorem dL_read_2 : decode cL_read 2 = .ok (.iconst 0, 1) := by decide +kernel
theorem dL_read_3 : decode cL_read 3 = .ok (.aload_n 0, 1) := by decide +kernel
theorem dL_read_4 : decode cL_read 4 = .ok (.iload_n 1, 1) := by decide +kernel
theorem dL_read_5 : decode cL_read 5 = .ok (.iload_n 2, 1) := by decide +kernel
theorem dL_read_6 : decode cL_read 6 = .ok (.iload_n 3, 1) := by decide +kernel
theorem dL_read_7 : decode cL_read 7 = .ok (.invokevirtual 17, 3) := by decide +kernel
theorem dL_read_10 : decode cL_read 10 = .ok (.i2l, 1) := by decide +kernel
theorem dL_read_11 : decode cL_read 11 = .ok (.lastore, 1) := by decide +kernel
theorem dL_read_12 : decode cL_read 12 = .ok (.goto 7, 3) := by decide +kernel
theorem dL_read_15 : decode cL_read 15 = .ok (.astore 5, 2) := by decide +kernel
theorem dL_read_17 : decode cL_read 17 = .ok (.iconst 1, 1) := by decide +kernel
theorem dL_read_18 : decode cL_read 18 = .ok (.ireturn, 1) := by decide +kernel
theorem dL_read_19 : decode cL_read 19 = .ok (.iconst 0, 1) := by decide +kernel
theorem dL_read_20 : decode cL_read 20 = .ok (.ireturn, 1) := by decide +kernel
theorem dL_blockAt_0 : decode cL_blockAt 0 = .ok (.aload 4, 2) := by decide +kernel
theorem dL_blockAt_2 : decode cL_blockAt 2 = .ok (.iconst 0, 1) := by decide +kernel
theorem dL_blockAt_3 : decode cL_blockAt 3 = .ok (.aload_n 0, 1) := by decide +kernel
theorem dL_blockAt_4 : decode cL_blockAt 4 = .ok (.iload_n 1, 1) := by decide +kernel
theorem dL_blockAt_5 : decode cL_blockAt 5 = .ok (.iload_n 2, 1) := by decide +kernel
theorem dL_blockAt_6 : decode cL_blockAt 6 = .ok (.iload_n 3, 1) := by decide +kernel
theorem dL_blockAt_7 : decode cL_blockAt 7 = .ok (.invokevirtual 21, 3) := by decide +kernel
theorem dL_blockAt_10 : decode cL_blockAt 10 = .ok (.i2l, 1) := by decide +kernel
theorem dL_blockAt_11 : decode cL_blockAt 11 = .ok (.lastore, 1) := by decide +kernel
theorem dL_blockAt_12 : decode cL_blockAt 12 = .ok (.goto 7, 3) := by decide +kernel
theorem dL_blockAt_15 : decode cL_blockAt 15 = .ok (.astore 5, 2) := by decide +kernel
theorem dL_blockAt_17 : decode cL_blockAt 17 = .ok (.iconst 1, 1) := by decide +kernel
theorem dL_blockAt_18 : decode cL_blockAt 18 = .ok (.ireturn, 1) := by decide +kernel
theorem dL_blockAt_19 : decode cL_blockAt 19 = .ok (.iconst 0, 1) := by decide +kernel
theorem dL_blockAt_20 : decode cL_blockAt 20 = .ok (.ireturn, 1) := by decide +kernel
theorem dL_length_0 : decode cL_length 0 = .ok (.aload_n 3, 1) := by decide +kernel
theorem dL_length_1 : decode cL_length 1 = .ok (.iconst 0, 1) := by decide +kernel
theorem dL_length_2 : decode cL_length 2 = .ok (.aload_n 0, 1) := by decide +kernel
theorem dL_length_3 : decode cL_length 3 = .ok (.iload_n 1, 1) := by decide +kernel
theorem dL_length_4 : decode cL_length 4 = .ok (.iload_n 2, 1) := by decide +kernel
theorem dL_length_5 : decode cL_length 5 = .ok (.invokevirtual 24, 3) := by decide +kernel
theorem dL_length_8 : decode cL_length 8 = .ok (.i2l, 1) := by decide +kernel
theorem dL_length_9 : decode cL_length 9 = .ok (.lastore, 1) := by decide +kernel
theorem dL_length_10 : decode cL_length 10 = .ok (.goto 7, 3) := by decide +kernel
theorem dL_length_13 : decode cL_length 13 = .ok (.astore 4, 2) := by decide +kernel
theorem dL_length_15 : decode cL_length 15 = .ok (.iconst 1, 1) := by decide +kernel
theorem dL_length_16 : decode cL_length 16 = .ok (.ireturn, 1) := by decide +kernel
theorem dL_length_17 : decode cL_length 17 = .ok (.iconst 0, 1) := by decide +kernel
theorem dL_length_18 : decode cL_length 18 = .ok (.ireturn, 1) := by decide +kernel
theorem dL_punch_0 : decode cL_punch 0 = .ok (.aload 5, 2) := by decide +kernel
theorem dL_punch_2 : decode cL_punch 2 = .ok (.iconst 0, 1) := by decide +kernel
theorem dL_punch_3 : decode cL_punch 3 = .ok (.aload_n 0, 1) := by decide +kernel
theorem dL_punch_4 : decode cL_punch 4 = .ok (.iload_n 1, 1) := by decide +kernel
theorem dL_punch_5 : decode cL_punch 5 = .ok (.iload_n 2, 1) := by decide +kernel
theorem dL_punch_6 : decode cL_punch 6 = .ok (.iload_n 3, 1) := by decide +kernel
theorem dL_punch_7 : decode cL_punch 7 = .ok (.iload 4, 2) := by decide +kernel
theorem dL_punch_9 : decode cL_punch 9 = .ok (.invokevirtual 28, 3) := by decide +kernel
theorem dL_punch_12 : decode cL_punch 12 = .ok (.i2l, 1) := by decide +kernel
theorem dL_punch_13 : decode cL_punch 13 = .ok (.lastore, 1) := by decide +kernel
theorem dL_punch_14 : decode cL_punch 14 = .ok (.goto 11, 3) := by decide +kernel
theorem dL_punch_17 : decode cL_punch 17 = .ok (.astore 6, 2) := by decide +kernel
theorem dL_punch_19 : decode cL_punch 19 = .ok (.iconst 1, 1) := by decide +kernel
theorem dL_punch_20 : decode cL_punch 20 = .ok (.ireturn, 1) := by decide +kernel
theorem dL_punch_21 : decode cL_punch 21 = .ok (.astore 6, 2) := by decide +kernel
theorem dL_punch_23 : decode cL_punch 23 = .ok (.iconst 2, 1) := by decide +kernel
theorem dL_punch_24 : decode cL_punch 24 = .ok (.ireturn, 1) := by decide +kernel
theorem dL_punch_25 : decode cL_punch 25 = .ok (.iconst 0, 1) := by decide +kernel
theorem dL_punch_26 : decode cL_punch 26 = .ok (.ireturn, 1) := by decide +kernel
theorem dL_reflink_0 : decode cL_reflink 0 = .ok (.aload 7, 2) := by decide +kernel
theorem dL_reflink_2 : decode cL_reflink 2 = .ok (.iconst 0, 1) := by decide +kernel
theorem dL_reflink_3 : decode cL_reflink 3 = .ok (.aload_n 0, 1) := by decide +kernel
theorem dL_reflink_4 : decode cL_reflink 4 = .ok (.iload_n 1, 1) := by decide +kernel
theorem dL_reflink_5 : decode cL_reflink 5 = .ok (.iload_n 2, 1) := by decide +kernel
theorem dL_reflink_6 : decode cL_reflink 6 = .ok (.iload_n 3, 1) := by decide +kernel
theorem dL_reflink_7 : decode cL_reflink 7 = .ok (.iload 4, 2) := by decide +kernel
theorem dL_reflink_9 : decode cL_reflink 9 = .ok (.iload 5, 2) := by decide +kernel
theorem dL_reflink_11 : decode cL_reflink 11 = .ok (.iload 6, 2) := by decide +kernel
theorem dL_reflink_13 : decode cL_reflink 13 = .ok (.invokevirtual 33, 3) := by decide +kernel
theorem dL_reflink_16 : decode cL_reflink 16 = .ok (.i2l, 1) := by decide +kernel
theorem dL_reflink_17 : decode cL_reflink 17 = .ok (.lastore, 1) := by decide +kernel
theorem dL_reflink_18 : decode cL_reflink 18 = .ok (.goto 11, 3) := by decide +kernel
theorem dL_reflink_21 : decode cL_reflink 21 = .ok (.astore 8, 2) := by decide +kernel
theorem dL_reflink_23 : decode cL_reflink 23 = .ok (.iconst 1, 1) := by decide +kernel
theorem dL_reflink_24 : decode cL_reflink 24 = .ok (.ireturn, 1) := by decide +kernel
theorem dL_reflink_25 : decode cL_reflink 25 = .ok (.astore 8, 2) := by decide +kernel
theorem dL_reflink_27 : decode cL_reflink 27 = .ok (.iconst 2, 1) := by decide +kernel
theorem dL_reflink_28 : decode cL_reflink 28 = .ok (.ireturn, 1) := by decide +kernel
theorem dL_reflink_29 : decode cL_reflink 29 = .ok (.iconst 0, 1) := by decide +kernel
theorem dL_reflink_30 : decode cL_reflink 30 = .ok (.ireturn, 1) := by decide +kernel
theorem dL_snapshot_0 : decode cL_snapshot 0 = .ok (.aload_n 2, 1) := by decide +kernel
theorem dL_snapshot_1 : decode cL_snapshot 1 = .ok (.iconst 0, 1) := by decide +kernel
theorem dL_snapshot_2 : decode cL_snapshot 2 = .ok (.aload_n 0, 1) := by decide +kernel
theorem dL_snapshot_3 : decode cL_snapshot 3 = .ok (.iload_n 1, 1) := by decide +kernel
theorem dL_snapshot_4 : decode cL_snapshot 4 = .ok (.invokevirtual 37, 3) := by decide +kernel
theorem dL_snapshot_7 : decode cL_snapshot 7 = .ok (.i2l, 1) := by decide +kernel
theorem dL_snapshot_8 : decode cL_snapshot 8 = .ok (.lastore, 1) := by decide +kernel
theorem dL_snapshot_9 : decode cL_snapshot 9 = .ok (.goto 9, 3) := by decide +kernel
theorem dL_snapshot_12 : decode cL_snapshot 12 = .ok (.astore_n 3, 1) := by decide +kernel
theorem dL_snapshot_13 : decode cL_snapshot 13 = .ok (.iconst 1, 1) := by decide +kernel
theorem dL_snapshot_14 : decode cL_snapshot 14 = .ok (.ireturn, 1) := by decide +kernel
theorem dL_snapshot_15 : decode cL_snapshot 15 = .ok (.astore_n 3, 1) := by decide +kernel
theorem dL_snapshot_16 : decode cL_snapshot 16 = .ok (.iconst 2, 1) := by decide +kernel
theorem dL_snapshot_17 : decode cL_snapshot 17 = .ok (.ireturn, 1) := by decide +kernel
theorem dL_snapshot_18 : decode cL_snapshot 18 = .ok (.iconst 0, 1) := by decide +kernel
theorem dL_snapshot_19 : decode cL_snapshot 19 = .ok (.ireturn, 1) := by decide +kernel
theorem dL_readSnapshot_0 : decode cL_readSnapshot 0 = .ok (.aload 4, 2) := by decide +kernel
theorem dL_readSnapshot_2 : decode cL_readSnapshot 2 = .ok (.iconst 0, 1) := by decide +kernel
theorem dL_readSnapshot_3 : decode cL_readSnapshot 3 = .ok (.aload_n 0, 1) := by decide +kernel
theorem dL_readSnapshot_4 : decode cL_readSnapshot 4 = .ok (.iload_n 1, 1) := by decide +kernel
theorem dL_readSnapshot_5 : decode cL_readSnapshot 5 = .ok (.iload_n 2, 1) := by decide +kernel
theorem dL_readSnapshot_6 : decode cL_readSnapshot 6 = .ok (.iload_n 3, 1) := by decide +kernel
theorem dL_readSnapshot_7 : decode cL_readSnapshot 7 = .ok (.invokevirtual 41, 3) := by decide +kernel
theorem dL_readSnapshot_10 : decode cL_readSnapshot 10 = .ok (.i2l, 1) := by decide +kernel
theorem dL_readSnapshot_11 : decode cL_readSnapshot 11 = .ok (.lastore, 1) := by decide +kernel
theorem dL_readSnapshot_12 : decode cL_readSnapshot 12 = .ok (.goto 7, 3) := by decide +kernel
theorem dL_readSnapshot_15 : decode cL_readSnapshot 15 = .ok (.astore 5, 2) := by decide +kernel
theorem dL_readSnapshot_17 : decode cL_readSnapshot 17 = .ok (.iconst 1, 1) := by decide +kernel
theorem dL_readSnapshot_18 : decode cL_readSnapshot 18 = .ok (.ireturn, 1) := by decide +kernel
theorem dL_readSnapshot_19 : decode cL_readSnapshot 19 = .ok (.iconst 0, 1) := by decide +kernel
theorem dL_readSnapshot_20 : decode cL_readSnapshot 20 = .ok (.ireturn, 1) := by decide +kernel
theorem dL_blockInSnapshot_0 : decode cL_blockInSnapshot 0 = .ok (.aload 4, 2) := by decide +kernel
theorem dL_blockInSnapshot_2 : decode cL_blockInSnapshot 2 = .ok (.iconst 0, 1) := by decide +kernel
theorem dL_blockInSnapshot_3 : decode cL_blockInSnapshot 3 = .ok (.aload_n 0, 1) := by decide +kernel
theorem dL_blockInSnapshot_4 : decode cL_blockInSnapshot 4 = .ok (.iload_n 1, 1) := by decide +kernel
theorem dL_blockInSnapshot_5 : decode cL_blockInSnapshot 5 = .ok (.iload_n 2, 1) := by decide +kernel
theorem dL_blockInSnapshot_6 : decode cL_blockInSnapshot 6 = .ok (.iload_n 3, 1) := by decide +kernel
theorem dL_blockInSnapshot_7 : decode cL_blockInSnapshot 7 = .ok (.invokevirtual 44, 3) := by decide +kernel
theorem dL_blockInSnapshot_10 : decode cL_blockInSnapshot 10 = .ok (.i2l, 1) := by decide +kernel
theorem dL_blockInSnapshot_11 : decode cL_blockInSnapshot 11 = .ok (.lastore, 1) := by decide +kernel
theorem dL_blockInSnapshot_12 : decode cL_blockInSnapshot 12 = .ok (.goto 7, 3) := by decide +kernel
theorem dL_blockInSnapshot_15 : decode cL_blockInSnapshot 15 = .ok (.astore 5, 2) := by decide +kernel
theorem dL_blockInSnapshot_17 : decode cL_blockInSnapshot 17 = .ok (.iconst 1, 1) := by decide +kernel
theorem dL_blockInSnapshot_18 : decode cL_blockInSnapshot 18 = .ok (.ireturn, 1) := by decide +kernel
theorem dL_blockInSnapshot_19 : decode cL_blockInSnapshot 19 = .ok (.iconst 0, 1) := by decide +kernel
theorem dL_blockInSnapshot_20 : decode cL_blockInSnapshot 20 = .ok (.ireturn, 1) := by decide +kernel
theorem dL_transactionOf_0 : decode cL_transactionOf 0 = .ok (.aload_n 2, 1) := by decide +kernel
theorem dL_transactionOf_1 : decode cL_transactionOf 1 = .ok (.iconst 0, 1) := by decide +kernel
theorem dL_transactionOf_2 : decode cL_transactionOf 2 = .ok (.aload_n 0, 1) := by decide +kernel
theorem dL_transactionOf_3 : decode cL_transactionOf 3 = .ok (.iload_n 1, 1) := by decide +kernel
theorem dL_transactionOf_4 : decode cL_transactionOf 4 = .ok (.invokevirtual 47, 3) := by decide +kernel
theorem dL_transactionOf_7 : decode cL_transactionOf 7 = .ok (.i2l, 1) := by decide +kernel
theorem dL_transactionOf_8 : decode cL_transactionOf 8 = .ok (.lastore, 1) := by decide +kernel
theorem dL_transactionOf_9 : decode cL_transactionOf 9 = .ok (.goto 6, 3) := by decide +kernel
theorem dL_transactionOf_12 : decode cL_transactionOf 12 = .ok (.astore_n 3, 1) := by decide +kernel
theorem dL_transactionOf_13 : decode cL_transactionOf 13 = .ok (.iconst 1, 1) := by decide +kernel
theorem dL_transactionOf_14 : decode cL_transactionOf 14 = .ok (.ireturn, 1) := by decide +kernel
theorem dL_transactionOf_15 : decode cL_transactionOf 15 = .ok (.iconst 0, 1) := by decide +kernel
theorem dL_transactionOf_16 : decode cL_transactionOf 16 = .ok (.ireturn, 1) := by decide +kernel
theorem dL_datasetOf_0 : decode cL_datasetOf 0 = .ok (.aload_n 2, 1) := by decide +kernel
theorem dL_datasetOf_1 : decode cL_datasetOf 1 = .ok (.iconst 0, 1) := by decide +kernel
theorem dL_datasetOf_2 : decode cL_datasetOf 2 = .ok (.aload_n 0, 1) := by decide +kernel
theorem dL_datasetOf_3 : decode cL_datasetOf 3 = .ok (.iload_n 1, 1) := by decide +kernel
theorem dL_datasetOf_4 : decode cL_datasetOf 4 = .ok (.invokevirtual 50, 3) := by decide +kernel
theorem dL_datasetOf_7 : decode cL_datasetOf 7 = .ok (.i2l, 1) := by decide +kernel
theorem dL_datasetOf_8 : decode cL_datasetOf 8 = .ok (.lastore, 1) := by decide +kernel
theorem dL_datasetOf_9 : decode cL_datasetOf 9 = .ok (.goto 6, 3) := by decide +kernel
theorem dL_datasetOf_12 : decode cL_datasetOf 12 = .ok (.astore_n 3, 1) := by decide +kernel
theorem dL_datasetOf_13 : decode cL_datasetOf 13 = .ok (.iconst 1, 1) := by decide +kernel
theorem dL_datasetOf_14 : decode cL_datasetOf 14 = .ok (.ireturn, 1) := by decide +kernel
theorem dL_datasetOf_15 : decode cL_datasetOf 15 = .ok (.iconst 0, 1) := by decide +kernel
theorem dL_datasetOf_16 : decode cL_datasetOf 16 = .ok (.ireturn, 1) := by decide +kernel
theorem dL_snapshots_0 : decode cL_snapshots 0 = .ok (.aload_n 2, 1) := by decide +kernel
theorem dL_snapshots_1 : decode cL_snapshots 1 = .ok (.iconst 0, 1) := by decide +kernel
theorem dL_snapshots_2 : decode cL_snapshots 2 = .ok (.aload_n 0, 1) := by decide +kernel
theorem dL_snapshots_3 : decode cL_snapshots 3 = .ok (.iload_n 1, 1) := by decide +kernel
theorem dL_snapshots_4 : decode cL_snapshots 4 = .ok (.invokevirtual 53, 3) := by decide +kernel
theorem dL_snapshots_7 : decode cL_snapshots 7 = .ok (.i2l, 1) := by decide +kernel
end
section
theorem dL_snapshots_8 : decode cL_snapshots 8 = .ok (.lastore, 1) := by decide +kernel
theorem dL_snapshots_9 : decode cL_snapshots 9 = .ok (.goto 6, 3) := by decide +kernel
theorem dL_snapshots_12 : decode cL_snapshots 12 = .ok (.astore_n 3, 1) := by decide +kernel
theorem dL_snapshots_13 : decode cL_snapshots 13 = .ok (.iconst 1, 1) := by decide +kernel
theorem dL_snapshots_14 : decode cL_snapshots 14 = .ok (.ireturn, 1) := by decide +kernel
theorem dL_snapshots_15 : decode cL_snapshots 15 = .ok (.iconst 0, 1) := by decide +kernel
theorem dL_snapshots_16 : decode cL_snapshots 16 = .ok (.ireturn, 1) := by decide +kernel
theorem dL_snapshotAt_0 : decode cL_snapshotAt 0 = .ok (.aload_n 3, 1) := by decide +kernel
theorem dL_snapshotAt_1 : decode cL_snapshotAt 1 = .ok (.iconst 0, 1) := by decide +kernel
theorem dL_snapshotAt_2 : decode cL_snapshotAt 2 = .ok (.aload_n 0, 1) := by decide +kernel
theorem dL_snapshotAt_3 : decode cL_snapshotAt 3 = .ok (.iload_n 1, 1) := by decide +kernel
theorem dL_snapshotAt_4 : decode cL_snapshotAt 4 = .ok (.iload_n 2, 1) := by decide +kernel
theorem dL_snapshotAt_5 : decode cL_snapshotAt 5 = .ok (.invokevirtual 56, 3) := by decide +kernel
theorem dL_snapshotAt_8 : decode cL_snapshotAt 8 = .ok (.i2l, 1) := by decide +kernel
theorem dL_snapshotAt_9 : decode cL_snapshotAt 9 = .ok (.lastore, 1) := by decide +kernel
theorem dL_snapshotAt_10 : decode cL_snapshotAt 10 = .ok (.goto 7, 3) := by decide +kernel
theorem dL_snapshotAt_13 : decode cL_snapshotAt 13 = .ok (.astore 4, 2) := by decide +kernel
theorem dL_snapshotAt_15 : decode cL_snapshotAt 15 = .ok (.iconst 1, 1) := by decide +kernel
theorem dL_snapshotAt_16 : decode cL_snapshotAt 16 = .ok (.ireturn, 1) := by decide +kernel
theorem dL_snapshotAt_17 : decode cL_snapshotAt 17 = .ok (.iconst 0, 1) := by decide +kernel
theorem dL_snapshotAt_18 : decode cL_snapshotAt 18 = .ok (.ireturn, 1) := by decide +kernel
theorem dL_destroySnapshot_0 : decode cL_destroySnapshot 0 = .ok (.aload_n 2, 1) := by decide +kernel
theorem dL_destroySnapshot_1 : decode cL_destroySnapshot 1 = .ok (.iconst 0, 1) := by decide +kernel
theorem dL_destroySnapshot_2 : decode cL_destroySnapshot 2 = .ok (.aload_n 0, 1) := by decide +kernel
theorem dL_destroySnapshot_3 : decode cL_destroySnapshot 3 = .ok (.iload_n 1, 1) := by decide +kernel
theorem dL_destroySnapshot_4 : decode cL_destroySnapshot 4 = .ok (.invokevirtual 59, 3) := by decide +kernel
theorem dL_destroySnapshot_7 : decode cL_destroySnapshot 7 = .ok (.i2l, 1) := by decide +kernel
theorem dL_destroySnapshot_8 : decode cL_destroySnapshot 8 = .ok (.lastore, 1) := by decide +kernel
theorem dL_destroySnapshot_9 : decode cL_destroySnapshot 9 = .ok (.goto 9, 3) := by decide +kernel
theorem dL_destroySnapshot_12 : decode cL_destroySnapshot 12 = .ok (.astore_n 3, 1) := by decide +kernel
theorem dL_destroySnapshot_13 : decode cL_destroySnapshot 13 = .ok (.iconst 1, 1) := by decide +kernel
theorem dL_destroySnapshot_14 : decode cL_destroySnapshot 14 = .ok (.ireturn, 1) := by decide +kernel
theorem dL_destroySnapshot_15 : decode cL_destroySnapshot 15 = .ok (.astore_n 3, 1) := by decide +kernel
theorem dL_destroySnapshot_16 : decode cL_destroySnapshot 16 = .ok (.iconst 2, 1) := by decide +kernel
theorem dL_destroySnapshot_17 : decode cL_destroySnapshot 17 = .ok (.ireturn, 1) := by decide +kernel
theorem dL_destroySnapshot_18 : decode cL_destroySnapshot 18 = .ok (.iconst 0, 1) := by decide +kernel
theorem dL_destroySnapshot_19 : decode cL_destroySnapshot 19 = .ok (.ireturn, 1) := by decide +kernel
theorem dL_rollback_0 : decode cL_rollback 0 = .ok (.aload_n 3, 1) := by decide +kernel
theorem dL_rollback_1 : decode cL_rollback 1 = .ok (.iconst 0, 1) := by decide +kernel
theorem dL_rollback_2 : decode cL_rollback 2 = .ok (.aload_n 0, 1) := by decide +kernel
theorem dL_rollback_3 : decode cL_rollback 3 = .ok (.iload_n 1, 1) := by decide +kernel
theorem dL_rollback_4 : decode cL_rollback 4 = .ok (.iload_n 2, 1) := by decide +kernel
theorem dL_rollback_5 : decode cL_rollback 5 = .ok (.invokevirtual 62, 3) := by decide +kernel
theorem dL_rollback_8 : decode cL_rollback 8 = .ok (.i2l, 1) := by decide +kernel
theorem dL_rollback_9 : decode cL_rollback 9 = .ok (.lastore, 1) := by decide +kernel
theorem dL_rollback_10 : decode cL_rollback 10 = .ok (.goto 15, 3) := by decide +kernel
theorem dL_rollback_13 : decode cL_rollback 13 = .ok (.astore 4, 2) := by decide +kernel
theorem dL_rollback_15 : decode cL_rollback 15 = .ok (.iconst 1, 1) := by decide +kernel
theorem dL_rollback_16 : decode cL_rollback 16 = .ok (.ireturn, 1) := by decide +kernel
theorem dL_rollback_17 : decode cL_rollback 17 = .ok (.astore 4, 2) := by decide +kernel
theorem dL_rollback_19 : decode cL_rollback 19 = .ok (.iconst 2, 1) := by decide +kernel
theorem dL_rollback_20 : decode cL_rollback 20 = .ok (.ireturn, 1) := by decide +kernel
theorem dL_rollback_21 : decode cL_rollback 21 = .ok (.astore 4, 2) := by decide +kernel
theorem dL_rollback_23 : decode cL_rollback 23 = .ok (.iconst 3, 1) := by decide +kernel
theorem dL_rollback_24 : decode cL_rollback 24 = .ok (.ireturn, 1) := by decide +kernel
theorem dL_rollback_25 : decode cL_rollback 25 = .ok (.iconst 0, 1) := by decide +kernel
theorem dL_rollback_26 : decode cL_rollback 26 = .ok (.ireturn, 1) := by decide +kernel
theorem dL_changed_0 : decode cL_changed 0 = .ok (.aload_n 3, 1) := by decide +kernel
theorem dL_changed_1 : decode cL_changed 1 = .ok (.iconst 0, 1) := by decide +kernel
theorem dL_changed_2 : decode cL_changed 2 = .ok (.aload_n 0, 1) := by decide +kernel
theorem dL_changed_3 : decode cL_changed 3 = .ok (.iload_n 1, 1) := by decide +kernel
theorem dL_changed_4 : decode cL_changed 4 = .ok (.iload_n 2, 1) := by decide +kernel
theorem dL_changed_5 : decode cL_changed 5 = .ok (.invokevirtual 65, 3) := by decide +kernel
theorem dL_changed_8 : decode cL_changed 8 = .ok (.i2l, 1) := by decide +kernel
theorem dL_changed_9 : decode cL_changed 9 = .ok (.lastore, 1) := by decide +kernel
theorem dL_changed_10 : decode cL_changed 10 = .ok (.goto 7, 3) := by decide +kernel
theorem dL_changed_13 : decode cL_changed 13 = .ok (.astore 4, 2) := by decide +kernel
theorem dL_changed_15 : decode cL_changed 15 = .ok (.iconst 1, 1) := by decide +kernel
theorem dL_changed_16 : decode cL_changed 16 = .ok (.ireturn, 1) := by decide +kernel
theorem dL_changed_17 : decode cL_changed 17 = .ok (.iconst 0, 1) := by decide +kernel
theorem dL_changed_18 : decode cL_changed 18 = .ok (.ireturn, 1) := by decide +kernel
theorem dL_makeClone_0 : decode cL_makeClone 0 = .ok (.aload_n 2, 1) := by decide +kernel
theorem dL_makeClone_1 : decode cL_makeClone 1 = .ok (.iconst 0, 1) := by decide +kernel
theorem dL_makeClone_2 : decode cL_makeClone 2 = .ok (.aload_n 0, 1) := by decide +kernel
theorem dL_makeClone_3 : decode cL_makeClone 3 = .ok (.iload_n 1, 1) := by decide +kernel
theorem dL_makeClone_4 : decode cL_makeClone 4 = .ok (.invokevirtual 68, 3) := by decide +kernel
theorem dL_makeClone_7 : decode cL_makeClone 7 = .ok (.i2l, 1) := by decide +kernel
theorem dL_makeClone_8 : decode cL_makeClone 8 = .ok (.lastore, 1) := by decide +kernel
theorem dL_makeClone_9 : decode cL_makeClone 9 = .ok (.goto 9, 3) := by decide +kernel
theorem dL_makeClone_12 : decode cL_makeClone 12 = .ok (.astore_n 3, 1) := by decide +kernel
theorem dL_makeClone_13 : decode cL_makeClone 13 = .ok (.iconst 1, 1) := by decide +kernel
theorem dL_makeClone_14 : decode cL_makeClone 14 = .ok (.ireturn, 1) := by decide +kernel
theorem dL_makeClone_15 : decode cL_makeClone 15 = .ok (.astore_n 3, 1) := by decide +kernel
theorem dL_makeClone_16 : decode cL_makeClone 16 = .ok (.iconst 2, 1) := by decide +kernel
theorem dL_makeClone_17 : decode cL_makeClone 17 = .ok (.ireturn, 1) := by decide +kernel
theorem dL_makeClone_18 : decode cL_makeClone 18 = .ok (.iconst 0, 1) := by decide +kernel
theorem dL_makeClone_19 : decode cL_makeClone 19 = .ok (.ireturn, 1) := by decide +kernel
theorem dL_origin_0 : decode cL_origin 0 = .ok (.aload_n 2, 1) := by decide +kernel
theorem dL_origin_1 : decode cL_origin 1 = .ok (.iconst 0, 1) := by decide +kernel
theorem dL_origin_2 : decode cL_origin 2 = .ok (.aload_n 0, 1) := by decide +kernel
theorem dL_origin_3 : decode cL_origin 3 = .ok (.iload_n 1, 1) := by decide +kernel
theorem dL_origin_4 : decode cL_origin 4 = .ok (.invokevirtual 71, 3) := by decide +kernel
theorem dL_origin_7 : decode cL_origin 7 = .ok (.i2l, 1) := by decide +kernel
theorem dL_origin_8 : decode cL_origin 8 = .ok (.lastore, 1) := by decide +kernel
theorem dL_origin_9 : decode cL_origin 9 = .ok (.goto 6, 3) := by decide +kernel
theorem dL_origin_12 : decode cL_origin 12 = .ok (.astore_n 3, 1) := by decide +kernel
theorem dL_origin_13 : decode cL_origin 13 = .ok (.iconst 1, 1) := by decide +kernel
theorem dL_origin_14 : decode cL_origin 14 = .ok (.ireturn, 1) := by decide +kernel
theorem dL_origin_15 : decode cL_origin 15 = .ok (.iconst 0, 1) := by decide +kernel
theorem dL_origin_16 : decode cL_origin 16 = .ok (.ireturn, 1) := by decide +kernel
theorem dL_promote_0 : decode cL_promote 0 = .ok (.aload_n 2, 1) := by decide +kernel
theorem dL_promote_1 : decode cL_promote 1 = .ok (.iconst 0, 1) := by decide +kernel
theorem dL_promote_2 : decode cL_promote 2 = .ok (.aload_n 0, 1) := by decide +kernel
theorem dL_promote_3 : decode cL_promote 3 = .ok (.iload_n 1, 1) := by decide +kernel
theorem dL_promote_4 : decode cL_promote 4 = .ok (.invokevirtual 74, 3) := by decide +kernel
theorem dL_promote_7 : decode cL_promote 7 = .ok (.i2l, 1) := by decide +kernel
theorem dL_promote_8 : decode cL_promote 8 = .ok (.lastore, 1) := by decide +kernel
theorem dL_promote_9 : decode cL_promote 9 = .ok (.goto 9, 3) := by decide +kernel
theorem dL_promote_12 : decode cL_promote 12 = .ok (.astore_n 3, 1) := by decide +kernel
theorem dL_promote_13 : decode cL_promote 13 = .ok (.iconst 1, 1) := by decide +kernel
theorem dL_promote_14 : decode cL_promote 14 = .ok (.ireturn, 1) := by decide +kernel
theorem dL_promote_15 : decode cL_promote 15 = .ok (.astore_n 3, 1) := by decide +kernel
theorem dL_promote_16 : decode cL_promote 16 = .ok (.iconst 2, 1) := by decide +kernel
theorem dL_promote_17 : decode cL_promote 17 = .ok (.ireturn, 1) := by decide +kernel
theorem dL_promote_18 : decode cL_promote 18 = .ok (.iconst 0, 1) := by decide +kernel
theorem dL_promote_19 : decode cL_promote 19 = .ok (.ireturn, 1) := by decide +kernel
theorem dL_destroy_0 : decode cL_destroy 0 = .ok (.aload_n 2, 1) := by decide +kernel
theorem dL_destroy_1 : decode cL_destroy 1 = .ok (.iconst 0, 1) := by decide +kernel
theorem dL_destroy_2 : decode cL_destroy 2 = .ok (.aload_n 0, 1) := by decide +kernel
theorem dL_destroy_3 : decode cL_destroy 3 = .ok (.iload_n 1, 1) := by decide +kernel
theorem dL_destroy_4 : decode cL_destroy 4 = .ok (.invokevirtual 77, 3) := by decide +kernel
theorem dL_destroy_7 : decode cL_destroy 7 = .ok (.i2l, 1) := by decide +kernel
theorem dL_destroy_8 : decode cL_destroy 8 = .ok (.lastore, 1) := by decide +kernel
theorem dL_destroy_9 : decode cL_destroy 9 = .ok (.goto 9, 3) := by decide +kernel
theorem dL_destroy_12 : decode cL_destroy 12 = .ok (.astore_n 3, 1) := by decide +kernel
theorem dL_destroy_13 : decode cL_destroy 13 = .ok (.iconst 1, 1) := by decide +kernel
theorem dL_destroy_14 : decode cL_destroy 14 = .ok (.ireturn, 1) := by decide +kernel
theorem dL_destroy_15 : decode cL_destroy 15 = .ok (.astore_n 3, 1) := by decide +kernel
theorem dL_destroy_16 : decode cL_destroy 16 = .ok (.iconst 2, 1) := by decide +kernel
theorem dL_destroy_17 : decode cL_destroy 17 = .ok (.ireturn, 1) := by decide +kernel
theorem dL_destroy_18 : decode cL_destroy 18 = .ok (.iconst 0, 1) := by decide +kernel
theorem dL_destroy_19 : decode cL_destroy 19 = .ok (.ireturn, 1) := by decide +kernel
theorem dL_referenced_0 : decode cL_referenced 0 = .ok (.aload_n 2, 1) := by decide +kernel
theorem dL_referenced_1 : decode cL_referenced 1 = .ok (.iconst 0, 1) := by decide +kernel
theorem dL_referenced_2 : decode cL_referenced 2 = .ok (.aload_n 0, 1) := by decide +kernel
theorem dL_referenced_3 : decode cL_referenced 3 = .ok (.iload_n 1, 1) := by decide +kernel
theorem dL_referenced_4 : decode cL_referenced 4 = .ok (.invokevirtual 80, 3) := by decide +kernel
theorem dL_referenced_7 : decode cL_referenced 7 = .ok (.i2l, 1) := by decide +kernel
theorem dL_referenced_8 : decode cL_referenced 8 = .ok (.lastore, 1) := by decide +kernel
theorem dL_referenced_9 : decode cL_referenced 9 = .ok (.goto 6, 3) := by decide +kernel
theorem dL_referenced_12 : decode cL_referenced 12 = .ok (.astore_n 3, 1) := by decide +kernel
theorem dL_referenced_13 : decode cL_referenced 13 = .ok (.iconst 1, 1) := by decide +kernel
theorem dL_referenced_14 : decode cL_referenced 14 = .ok (.ireturn, 1) := by decide +kernel
theorem dL_referenced_15 : decode cL_referenced 15 = .ok (.iconst 0, 1) := by decide +kernel
theorem dL_referenced_16 : decode cL_referenced 16 = .ok (.ireturn, 1) := by decide +kernel
theorem dL_unique_0 : decode cL_unique 0 = .ok (.aload_n 2, 1) := by decide +kernel
theorem dL_unique_1 : decode cL_unique 1 = .ok (.iconst 0, 1) := by decide +kernel
theorem dL_unique_2 : decode cL_unique 2 = .ok (.aload_n 0, 1) := by decide +kernel
theorem dL_unique_3 : decode cL_unique 3 = .ok (.iload_n 1, 1) := by decide +kernel
theorem dL_unique_4 : decode cL_unique 4 = .ok (.invokevirtual 83, 3) := by decide +kernel
theorem dL_unique_7 : decode cL_unique 7 = .ok (.i2l, 1) := by decide +kernel
theorem dL_unique_8 : decode cL_unique 8 = .ok (.lastore, 1) := by decide +kernel
theorem dL_unique_9 : decode cL_unique 9 = .ok (.goto 6, 3) := by decide +kernel
theorem dL_unique_12 : decode cL_unique 12 = .ok (.astore_n 3, 1) := by decide +kernel
theorem dL_unique_13 : decode cL_unique 13 = .ok (.iconst 1, 1) := by decide +kernel
theorem dL_unique_14 : decode cL_unique 14 = .ok (.ireturn, 1) := by decide +kernel
theorem dL_unique_15 : decode cL_unique 15 = .ok (.iconst 0, 1) := by decide +kernel
theorem dL_unique_16 : decode cL_unique 16 = .ok (.ireturn, 1) := by decide +kernel
theorem dL_uniqueOfSnapshot_0 : decode cL_uniqueOfSnapshot 0 = .ok (.aload_n 2, 1) := by decide +kernel
theorem dL_uniqueOfSnapshot_1 : decode cL_uniqueOfSnapshot 1 = .ok (.iconst 0, 1) := by decide +kernel
theorem dL_uniqueOfSnapshot_2 : decode cL_uniqueOfSnapshot 2 = .ok (.aload_n 0, 1) := by decide +kernel
theorem dL_uniqueOfSnapshot_3 : decode cL_uniqueOfSnapshot 3 = .ok (.iload_n 1, 1) := by decide +kernel
theorem dL_uniqueOfSnapshot_4 : decode cL_uniqueOfSnapshot 4 = .ok (.invokevirtual 86, 3) := by decide +kernel
theorem dL_uniqueOfSnapshot_7 : decode cL_uniqueOfSnapshot 7 = .ok (.i2l, 1) := by decide +kernel
theorem dL_uniqueOfSnapshot_8 : decode cL_uniqueOfSnapshot 8 = .ok (.lastore, 1) := by decide +kernel
theorem dL_uniqueOfSnapshot_9 : decode cL_uniqueOfSnapshot 9 = .ok (.goto 6, 3) := by decide +kernel
theorem dL_uniqueOfSnapshot_12 : decode cL_uniqueOfSnapshot 12 = .ok (.astore_n 3, 1) := by decide +kernel
theorem dL_uniqueOfSnapshot_13 : decode cL_uniqueOfSnapshot 13 = .ok (.iconst 1, 1) := by decide +kernel
theorem dL_uniqueOfSnapshot_14 : decode cL_uniqueOfSnapshot 14 = .ok (.ireturn, 1) := by decide +kernel
theorem dL_uniqueOfSnapshot_15 : decode cL_uniqueOfSnapshot 15 = .ok (.iconst 0, 1) := by decide +kernel
theorem dL_uniqueOfSnapshot_16 : decode cL_uniqueOfSnapshot 16 = .ok (.ireturn, 1) := by decide +kernel
theorem dL_newer_0 : decode cL_newer 0 = .ok (.aload_n 3, 1) := by decide +kernel
theorem dL_newer_1 : decode cL_newer 1 = .ok (.iconst 0, 1) := by decide +kernel
theorem dL_newer_2 : decode cL_newer 2 = .ok (.aload_n 0, 1) := by decide +kernel
theorem dL_newer_3 : decode cL_newer 3 = .ok (.iload_n 1, 1) := by decide +kernel
theorem dL_newer_4 : decode cL_newer 4 = .ok (.iload_n 2, 1) := by decide +kernel
theorem dL_newer_5 : decode cL_newer 5 = .ok (.invokevirtual 89, 3) := by decide +kernel
theorem dL_newer_8 : decode cL_newer 8 = .ok (.i2l, 1) := by decide +kernel
theorem dL_newer_9 : decode cL_newer 9 = .ok (.lastore, 1) := by decide +kernel
theorem dL_newer_10 : decode cL_newer 10 = .ok (.goto 7, 3) := by decide +kernel
theorem dL_newer_13 : decode cL_newer 13 = .ok (.astore 4, 2) := by decide +kernel
theorem dL_newer_15 : decode cL_newer 15 = .ok (.iconst 1, 1) := by decide +kernel
theorem dL_newer_16 : decode cL_newer 16 = .ok (.ireturn, 1) := by decide +kernel
theorem dL_newer_17 : decode cL_newer 17 = .ok (.iconst 0, 1) := by decide +kernel
theorem dL_newer_18 : decode cL_newer 18 = .ok (.ireturn, 1) := by decide +kernel
theorem dL_birth_0 : decode cL_birth 0 = .ok (.aload_n 2, 1) := by decide +kernel
theorem dL_birth_1 : decode cL_birth 1 = .ok (.iconst 0, 1) := by decide +kernel
theorem dL_birth_2 : decode cL_birth 2 = .ok (.aload_n 0, 1) := by decide +kernel
theorem dL_birth_3 : decode cL_birth 3 = .ok (.iload_n 1, 1) := by decide +kernel
theorem dL_birth_4 : decode cL_birth 4 = .ok (.invokevirtual 92, 3) := by decide +kernel
theorem dL_birth_7 : decode cL_birth 7 = .ok (.i2l, 1) := by decide +kernel
theorem dL_birth_8 : decode cL_birth 8 = .ok (.lastore, 1) := by decide +kernel
theorem dL_birth_9 : decode cL_birth 9 = .ok (.goto 9, 3) := by decide +kernel
theorem dL_birth_12 : decode cL_birth 12 = .ok (.astore_n 3, 1) := by decide +kernel
theorem dL_birth_13 : decode cL_birth 13 = .ok (.iconst 1, 1) := by decide +kernel
theorem dL_birth_14 : decode cL_birth 14 = .ok (.ireturn, 1) := by decide +kernel
theorem dL_birth_15 : decode cL_birth 15 = .ok (.astore_n 3, 1) := by decide +kernel
theorem dL_birth_16 : decode cL_birth 16 = .ok (.iconst 2, 1) := by decide +kernel
theorem dL_birth_17 : decode cL_birth 17 = .ok (.ireturn, 1) := by decide +kernel
theorem dL_birth_18 : decode cL_birth 18 = .ok (.iconst 0, 1) := by decide +kernel
theorem dL_birth_19 : decode cL_birth 19 = .ok (.ireturn, 1) := by decide +kernel
theorem dL_references_0 : decode cL_references 0 = .ok (.aload_n 2, 1) := by decide +kernel
theorem dL_references_1 : decode cL_references 1 = .ok (.iconst 0, 1) := by decide +kernel
theorem dL_references_2 : decode cL_references 2 = .ok (.aload_n 0, 1) := by decide +kernel
theorem dL_references_3 : decode cL_references 3 = .ok (.iload_n 1, 1) := by decide +kernel
theorem dL_references_4 : decode cL_references 4 = .ok (.invokevirtual 95, 3) := by decide +kernel
theorem dL_references_7 : decode cL_references 7 = .ok (.i2l, 1) := by decide +kernel
theorem dL_references_8 : decode cL_references 8 = .ok (.lastore, 1) := by decide +kernel
theorem dL_references_9 : decode cL_references 9 = .ok (.goto 6, 3) := by decide +kernel
theorem dL_references_12 : decode cL_references 12 = .ok (.astore_n 3, 1) := by decide +kernel
theorem dL_references_13 : decode cL_references 13 = .ok (.iconst 1, 1) := by decide +kernel
theorem dL_references_14 : decode cL_references 14 = .ok (.ireturn, 1) := by decide +kernel
theorem dL_references_15 : decode cL_references 15 = .ok (.iconst 0, 1) := by decide +kernel
theorem dL_references_16 : decode cL_references 16 = .ok (.ireturn, 1) := by decide +kernel
theorem dL_freeIn_0 : decode cL_freeIn 0 = .ok (.aload_n 2, 1) := by decide +kernel
theorem dL_freeIn_1 : decode cL_freeIn 1 = .ok (.iconst 0, 1) := by decide +kernel
theorem dL_freeIn_2 : decode cL_freeIn 2 = .ok (.aload_n 0, 1) := by decide +kernel
theorem dL_freeIn_3 : decode cL_freeIn 3 = .ok (.iload_n 1, 1) := by decide +kernel
theorem dL_freeIn_4 : decode cL_freeIn 4 = .ok (.invokevirtual 98, 3) := by decide +kernel
theorem dL_freeIn_7 : decode cL_freeIn 7 = .ok (.i2l, 1) := by decide +kernel
theorem dL_freeIn_8 : decode cL_freeIn 8 = .ok (.lastore, 1) := by decide +kernel
theorem dL_freeIn_9 : decode cL_freeIn 9 = .ok (.goto 6, 3) := by decide +kernel
theorem dL_freeIn_12 : decode cL_freeIn 12 = .ok (.astore_n 3, 1) := by decide +kernel
theorem dL_freeIn_13 : decode cL_freeIn 13 = .ok (.iconst 1, 1) := by decide +kernel
theorem dL_freeIn_14 : decode cL_freeIn 14 = .ok (.ireturn, 1) := by decide +kernel
theorem dL_freeIn_15 : decode cL_freeIn 15 = .ok (.iconst 0, 1) := by decide +kernel
theorem dL_freeIn_16 : decode cL_freeIn 16 = .ok (.ireturn, 1) := by decide +kernel
theorem dL_logEntries_0 : decode cL_logEntries 0 = .ok (.aload_n 2, 1) := by decide +kernel
theorem dL_logEntries_1 : decode cL_logEntries 1 = .ok (.iconst 0, 1) := by decide +kernel
theorem dL_logEntries_2 : decode cL_logEntries 2 = .ok (.aload_n 0, 1) := by decide +kernel
theorem dL_logEntries_3 : decode cL_logEntries 3 = .ok (.iload_n 1, 1) := by decide +kernel
theorem dL_logEntries_4 : decode cL_logEntries 4 = .ok (.invokevirtual 101, 3) := by decide +kernel
theorem dL_logEntries_7 : decode cL_logEntries 7 = .ok (.i2l, 1) := by decide +kernel
theorem dL_logEntries_8 : decode cL_logEntries 8 = .ok (.lastore, 1) := by decide +kernel
theorem dL_logEntries_9 : decode cL_logEntries 9 = .ok (.goto 6, 3) := by decide +kernel
theorem dL_logEntries_12 : decode cL_logEntries 12 = .ok (.astore_n 3, 1) := by decide +kernel
theorem dL_logEntries_13 : decode cL_logEntries 13 = .ok (.iconst 1, 1) := by decide +kernel
theorem dL_logEntries_14 : decode cL_logEntries 14 = .ok (.ireturn, 1) := by decide +kernel
theorem dL_logEntries_15 : decode cL_logEntries 15 = .ok (.iconst 0, 1) := by decide +kernel
theorem dL_logEntries_16 : decode cL_logEntries 16 = .ok (.ireturn, 1) := by decide +kernel
theorem dL_runAt_0 : decode cL_runAt 0 = .ok (.aload_n 3, 1) := by decide +kernel
theorem dL_runAt_1 : decode cL_runAt 1 = .ok (.iconst 0, 1) := by decide +kernel
theorem dL_runAt_2 : decode cL_runAt 2 = .ok (.aload_n 0, 1) := by decide +kernel
theorem dL_runAt_3 : decode cL_runAt 3 = .ok (.iload_n 1, 1) := by decide +kernel
theorem dL_runAt_4 : decode cL_runAt 4 = .ok (.iload_n 2, 1) := by decide +kernel
theorem dL_runAt_5 : decode cL_runAt 5 = .ok (.invokevirtual 104, 3) := by decide +kernel
theorem dL_runAt_8 : decode cL_runAt 8 = .ok (.i2l, 1) := by decide +kernel
theorem dL_runAt_9 : decode cL_runAt 9 = .ok (.lastore, 1) := by decide +kernel
theorem dL_runAt_10 : decode cL_runAt 10 = .ok (.goto 7, 3) := by decide +kernel
theorem dL_runAt_13 : decode cL_runAt 13 = .ok (.astore 4, 2) := by decide +kernel
theorem dL_runAt_15 : decode cL_runAt 15 = .ok (.iconst 1, 1) := by decide +kernel
theorem dL_runAt_16 : decode cL_runAt 16 = .ok (.ireturn, 1) := by decide +kernel
theorem dL_runAt_17 : decode cL_runAt 17 = .ok (.iconst 0, 1) := by decide +kernel
theorem dL_runAt_18 : decode cL_runAt 18 = .ok (.ireturn, 1) := by decide +kernel
theorem dL_allocates_0 : decode cL_allocates 0 = .ok (.aload_n 3, 1) := by decide +kernel
theorem dL_allocates_1 : decode cL_allocates 1 = .ok (.iconst 0, 1) := by decide +kernel
theorem dL_allocates_2 : decode cL_allocates 2 = .ok (.aload_n 0, 1) := by decide +kernel
theorem dL_allocates_3 : decode cL_allocates 3 = .ok (.iload_n 1, 1) := by decide +kernel
theorem dL_allocates_4 : decode cL_allocates 4 = .ok (.iload_n 2, 1) := by decide +kernel
theorem dL_allocates_5 : decode cL_allocates 5 = .ok (.invokevirtual 107, 3) := by decide +kernel
theorem dL_allocates_8 : decode cL_allocates 8 = .ok (.ifCond .eq 7, 3) := by decide +kernel
theorem dL_allocates_11 : decode cL_allocates 11 = .ok (.lconst 1, 1) := by decide +kernel
theorem dL_allocates_12 : decode cL_allocates 12 = .ok (.goto 4, 3) := by decide +kernel
theorem dL_allocates_15 : decode cL_allocates 15 = .ok (.lconst 0, 1) := by decide +kernel
theorem dL_allocates_16 : decode cL_allocates 16 = .ok (.lastore, 1) := by decide +kernel
theorem dL_allocates_17 : decode cL_allocates 17 = .ok (.goto 7, 3) := by decide +kernel
theorem dL_allocates_20 : decode cL_allocates 20 = .ok (.astore 4, 2) := by decide +kernel
theorem dL_allocates_22 : decode cL_allocates 22 = .ok (.iconst 1, 1) := by decide +kernel
theorem dL_allocates_23 : decode cL_allocates 23 = .ok (.ireturn, 1) := by decide +kernel
theorem dL_allocates_24 : decode cL_allocates 24 = .ok (.iconst 0, 1) := by decide +kernel
theorem dL_allocates_25 : decode cL_allocates 25 = .ok (.ireturn, 1) := by decide +kernel
theorem dL_replay_0 : decode cL_replay 0 = .ok (.aload_n 2, 1) := by decide +kernel
theorem dL_replay_1 : decode cL_replay 1 = .ok (.iconst 0, 1) := by decide +kernel
theorem dL_replay_2 : decode cL_replay 2 = .ok (.aload_n 0, 1) := by decide +kernel
theorem dL_replay_3 : decode cL_replay 3 = .ok (.iload_n 1, 1) := by decide +kernel
theorem dL_replay_4 : decode cL_replay 4 = .ok (.invokevirtual 111, 3) := by decide +kernel
theorem dL_replay_7 : decode cL_replay 7 = .ok (.i2l, 1) := by decide +kernel
theorem dL_replay_8 : decode cL_replay 8 = .ok (.lastore, 1) := by decide +kernel
theorem dL_replay_9 : decode cL_replay 9 = .ok (.goto 6, 3) := by decide +kernel
theorem dL_replay_12 : decode cL_replay 12 = .ok (.astore_n 3, 1) := by decide +kernel
theorem dL_replay_13 : decode cL_replay 13 = .ok (.iconst 1, 1) := by decide +kernel
theorem dL_replay_14 : decode cL_replay 14 = .ok (.ireturn, 1) := by decide +kernel
theorem dL_replay_15 : decode cL_replay 15 = .ok (.iconst 0, 1) := by decide +kernel
theorem dL_replay_16 : decode cL_replay 16 = .ok (.ireturn, 1) := by decide +kernel
theorem dL_law_0 : decode cL_law 0 = .ok (.new 8, 3) := by decide +kernel
theorem dL_law_3 : decode cL_law 3 = .ok (.dup, 1) := by decide +kernel
theorem dL_law_4 : decode cL_law 4 = .ok (.invokespecial 114, 3) := by decide +kernel
theorem dL_law_7 : decode cL_law 7 = .ok (.astore_n 1, 1) := by decide +kernel
theorem dL_law_8 : decode cL_law 8 = .ok (.new 115, 3) := by decide +kernel
theorem dL_law_11 : decode cL_law 11 = .ok (.dup, 1) := by decide +kernel
theorem dL_law_12 : decode cL_law 12 = .ok (.invokespecial 117, 3) := by decide +kernel
theorem dL_law_15 : decode cL_law 15 = .ok (.astore_n 2, 1) := by decide +kernel
theorem dL_law_16 : decode cL_law 16 = .ok (.iconst 1, 1) := by decide +kernel
theorem dL_law_17 : decode cL_law 17 = .ok (.newarray .long, 2) := by decide +kernel
theorem dL_law_19 : decode cL_law 19 = .ok (.astore_n 3, 1) := by decide +kernel
theorem dL_law_20 : decode cL_law 20 = .ok (.iconst 0, 1) := by decide +kernel
theorem dL_law_21 : decode cL_law 21 = .ok (.istore 4, 2) := by decide +kernel
theorem dL_law_23 : decode cL_law 23 = .ok (.iload 4, 2) := by decide +kernel
theorem dL_law_25 : decode cL_law 25 = .ok (.aload_n 0, 1) := by decide +kernel
theorem dL_law_26 : decode cL_law 26 = .ok (.arraylength, 1) := by decide +kernel
theorem dL_law_27 : decode cL_law 27 = .ok (.bipush 7, 2) := by decide +kernel
theorem dL_law_29 : decode cL_law 29 = .ok (.isub, 1) := by decide +kernel
theorem dL_law_30 : decode cL_law 30 = .ok (.if_icmp .gt 2332, 3) := by decide +kernel
theorem dL_law_33 : decode cL_law 33 = .ok (.aload_n 0, 1) := by decide +kernel
theorem dL_law_34 : decode cL_law 34 = .ok (.iload 4, 2) := by decide +kernel
theorem dL_law_36 : decode cL_law 36 = .ok (.iaload, 1) := by decide +kernel
theorem dL_law_37 : decode cL_law 37 = .ok (.bipush 63, 2) := by decide +kernel
theorem dL_law_39 : decode cL_law 39 = .ok (.iand, 1) := by decide +kernel
theorem dL_law_40 : decode cL_law 40 = .ok (.tableswitch 2316 0 37 #[168, 260, 340, 420, 488, 580, 698, 711, 724, 737, 793, 873, 953, 1009, 1065, 1121, 1189, 1245, 1313, 1381, 1394, 1450, 1506, 1562, 1618, 1674, 1730, 1786, 1854, 1910, 1966, 1979, 1992, 2048, 2104, 2172, 2247, 2303], 168) := by decide +kernel
theorem dL_law_208 : decode cL_law 208 = .ok (.aload_n 1, 1) := by decide +kernel
theorem dL_law_209 : decode cL_law 209 = .ok (.aload_n 0, 1) := by decide +kernel
theorem dL_law_210 : decode cL_law 210 = .ok (.iload 4, 2) := by decide +kernel
theorem dL_law_212 : decode cL_law 212 = .ok (.iconst 1, 1) := by decide +kernel
theorem dL_law_213 : decode cL_law 213 = .ok (.iadd, 1) := by decide +kernel
theorem dL_law_214 : decode cL_law 214 = .ok (.iaload, 1) := by decide +kernel
theorem dL_law_215 : decode cL_law 215 = .ok (.aload_n 0, 1) := by decide +kernel
theorem dL_law_216 : decode cL_law 216 = .ok (.iload 4, 2) := by decide +kernel
theorem dL_law_218 : decode cL_law 218 = .ok (.iconst 2, 1) := by decide +kernel
theorem dL_law_219 : decode cL_law 219 = .ok (.iadd, 1) := by decide +kernel
theorem dL_law_220 : decode cL_law 220 = .ok (.iaload, 1) := by decide +kernel
theorem dL_law_221 : decode cL_law 221 = .ok (.aload_n 0, 1) := by decide +kernel
theorem dL_law_222 : decode cL_law 222 = .ok (.iload 4, 2) := by decide +kernel
theorem dL_law_224 : decode cL_law 224 = .ok (.iconst 3, 1) := by decide +kernel
theorem dL_law_225 : decode cL_law 225 = .ok (.iadd, 1) := by decide +kernel
theorem dL_law_226 : decode cL_law 226 = .ok (.iaload, 1) := by decide +kernel
theorem dL_law_227 : decode cL_law 227 = .ok (.aload_n 0, 1) := by decide +kernel
theorem dL_law_228 : decode cL_law 228 = .ok (.iload 4, 2) := by decide +kernel
theorem dL_law_230 : decode cL_law 230 = .ok (.iconst 4, 1) := by decide +kernel
theorem dL_law_231 : decode cL_law 231 = .ok (.iadd, 1) := by decide +kernel
theorem dL_law_232 : decode cL_law 232 = .ok (.iaload, 1) := by decide +kernel
theorem dL_law_233 : decode cL_law 233 = .ok (.aload_n 3, 1) := by decide +kernel
theorem dL_law_234 : decode cL_law 234 = .ok (.invokestatic 118, 3) := by decide +kernel
theorem dL_law_237 : decode cL_law 237 = .ok (.istore 5, 2) := by decide +kernel
theorem dL_law_239 : decode cL_law 239 = .ok (.aload_n 2, 1) := by decide +kernel
theorem dL_law_240 : decode cL_law 240 = .ok (.aload_n 0, 1) := by decide +kernel
theorem dL_law_241 : decode cL_law 241 = .ok (.iload 4, 2) := by decide +kernel
theorem dL_law_243 : decode cL_law 243 = .ok (.iconst 1, 1) := by decide +kernel
theorem dL_law_244 : decode cL_law 244 = .ok (.iadd, 1) := by decide +kernel
theorem dL_law_245 : decode cL_law 245 = .ok (.iaload, 1) := by decide +kernel
theorem dL_law_246 : decode cL_law 246 = .ok (.aload_n 0, 1) := by decide +kernel
theorem dL_law_247 : decode cL_law 247 = .ok (.iload 4, 2) := by decide +kernel
theorem dL_law_249 : decode cL_law 249 = .ok (.iconst 2, 1) := by decide +kernel
theorem dL_law_250 : decode cL_law 250 = .ok (.iadd, 1) := by decide +kernel
theorem dL_law_251 : decode cL_law 251 = .ok (.iaload, 1) := by decide +kernel
theorem dL_law_252 : decode cL_law 252 = .ok (.aload_n 0, 1) := by decide +kernel
theorem dL_law_253 : decode cL_law 253 = .ok (.iload 4, 2) := by decide +kernel
theorem dL_law_255 : decode cL_law 255 = .ok (.iconst 3, 1) := by decide +kernel
theorem dL_law_256 : decode cL_law 256 = .ok (.iadd, 1) := by decide +kernel
theorem dL_law_257 : decode cL_law 257 = .ok (.iaload, 1) := by decide +kernel
theorem dL_law_258 : decode cL_law 258 = .ok (.aload_n 0, 1) := by decide +kernel
theorem dL_law_259 : decode cL_law 259 = .ok (.iload 4, 2) := by decide +kernel
theorem dL_law_261 : decode cL_law 261 = .ok (.iconst 4, 1) := by decide +kernel
theorem dL_law_262 : decode cL_law 262 = .ok (.iadd, 1) := by decide +kernel
theorem dL_law_263 : decode cL_law 263 = .ok (.iaload, 1) := by decide +kernel
theorem dL_law_264 : decode cL_law 264 = .ok (.invokevirtual 123, 3) := by decide +kernel
theorem dL_law_267 : decode cL_law 267 = .ok (.istore 6, 2) := by decide +kernel
theorem dL_law_269 : decode cL_law 269 = .ok (.aload_n 2, 1) := by decide +kernel
theorem dL_law_270 : decode cL_law 270 = .ok (.invokevirtual 124, 3) := by decide +kernel
theorem dL_law_273 : decode cL_law 273 = .ok (.iload 5, 2) := by decide +kernel
theorem dL_law_275 : decode cL_law 275 = .ok (.if_icmp .eq 5, 3) := by decide +kernel
theorem dL_law_278 : decode cL_law 278 = .ok (.iconst 0, 1) := by decide +kernel
theorem dL_law_279 : decode cL_law 279 = .ok (.ireturn, 1) := by decide +kernel
theorem dL_law_280 : decode cL_law 280 = .ok (.iload 5, 2) := by decide +kernel
theorem dL_law_282 : decode cL_law 282 = .ok (.ifCond .ne 15, 3) := by decide +kernel
theorem dL_law_285 : decode cL_law 285 = .ok (.aload_n 3, 1) := by decide +kernel
theorem dL_law_286 : decode cL_law 286 = .ok (.iconst 0, 1) := by decide +kernel
theorem dL_law_287 : decode cL_law 287 = .ok (.laload, 1) := by decide +kernel
theorem dL_law_288 : decode cL_law 288 = .ok (.iload 6, 2) := by decide +kernel
theorem dL_law_290 : decode cL_law 290 = .ok (.i2l, 1) := by decide +kernel
theorem dL_law_291 : decode cL_law 291 = .ok (.lcmp, 1) := by decide +kernel
theorem dL_law_292 : decode cL_law 292 = .ok (.ifCond .eq 5, 3) := by decide +kernel
theorem dL_law_295 : decode cL_law 295 = .ok (.iconst 0, 1) := by decide +kernel
theorem dL_law_296 : decode cL_law 296 = .ok (.ireturn, 1) := by decide +kernel
theorem dL_law_297 : decode cL_law 297 = .ok (.goto 2059, 3) := by decide +kernel
theorem dL_law_300 : decode cL_law 300 = .ok (.aload_n 1, 1) := by decide +kernel
theorem dL_law_301 : decode cL_law 301 = .ok (.aload_n 0, 1) := by decide +kernel
theorem dL_law_302 : decode cL_law 302 = .ok (.iload 4, 2) := by decide +kernel
theorem dL_law_304 : decode cL_law 304 = .ok (.iconst 1, 1) := by decide +kernel
theorem dL_law_305 : decode cL_law 305 = .ok (.iadd, 1) := by decide +kernel
theorem dL_law_306 : decode cL_law 306 = .ok (.iaload, 1) := by decide +kernel
theorem dL_law_307 : decode cL_law 307 = .ok (.aload_n 0, 1) := by decide +kernel
theorem dL_law_308 : decode cL_law 308 = .ok (.iload 4, 2) := by decide +kernel
theorem dL_law_310 : decode cL_law 310 = .ok (.iconst 2, 1) := by decide +kernel
theorem dL_law_311 : decode cL_law 311 = .ok (.iadd, 1) := by decide +kernel
theorem dL_law_312 : decode cL_law 312 = .ok (.iaload, 1) := by decide +kernel
theorem dL_law_313 : decode cL_law 313 = .ok (.aload_n 0, 1) := by decide +kernel
theorem dL_law_314 : decode cL_law 314 = .ok (.iload 4, 2) := by decide +kernel
theorem dL_law_316 : decode cL_law 316 = .ok (.iconst 3, 1) := by decide +kernel
theorem dL_law_317 : decode cL_law 317 = .ok (.iadd, 1) := by decide +kernel
theorem dL_law_318 : decode cL_law 318 = .ok (.iaload, 1) := by decide +kernel
theorem dL_law_319 : decode cL_law 319 = .ok (.aload_n 3, 1) := by decide +kernel
theorem dL_law_320 : decode cL_law 320 = .ok (.invokestatic 128, 3) := by decide +kernel
theorem dL_law_323 : decode cL_law 323 = .ok (.istore 5, 2) := by decide +kernel
theorem dL_law_325 : decode cL_law 325 = .ok (.aload_n 2, 1) := by decide +kernel
theorem dL_law_326 : decode cL_law 326 = .ok (.aload_n 0, 1) := by decide +kernel
theorem dL_law_327 : decode cL_law 327 = .ok (.iload 4, 2) := by decide +kernel
theorem dL_law_329 : decode cL_law 329 = .ok (.iconst 1, 1) := by decide +kernel
theorem dL_law_330 : decode cL_law 330 = .ok (.iadd, 1) := by decide +kernel
theorem dL_law_331 : decode cL_law 331 = .ok (.iaload, 1) := by decide +kernel
theorem dL_law_332 : decode cL_law 332 = .ok (.aload_n 0, 1) := by decide +kernel
theorem dL_law_333 : decode cL_law 333 = .ok (.iload 4, 2) := by decide +kernel
theorem dL_law_335 : decode cL_law 335 = .ok (.iconst 2, 1) := by decide +kernel
theorem dL_law_336 : decode cL_law 336 = .ok (.iadd, 1) := by decide +kernel
theorem dL_law_337 : decode cL_law 337 = .ok (.iaload, 1) := by decide +kernel
theorem dL_law_338 : decode cL_law 338 = .ok (.aload_n 0, 1) := by decide +kernel
theorem dL_law_339 : decode cL_law 339 = .ok (.iload 4, 2) := by decide +kernel
theorem dL_law_341 : decode cL_law 341 = .ok (.iconst 3, 1) := by decide +kernel
theorem dL_law_342 : decode cL_law 342 = .ok (.iadd, 1) := by decide +kernel
theorem dL_law_343 : decode cL_law 343 = .ok (.iaload, 1) := by decide +kernel
theorem dL_law_344 : decode cL_law 344 = .ok (.invokevirtual 131, 3) := by decide +kernel
theorem dL_law_347 : decode cL_law 347 = .ok (.istore 6, 2) := by decide +kernel
theorem dL_law_349 : decode cL_law 349 = .ok (.aload_n 2, 1) := by decide +kernel
theorem dL_law_350 : decode cL_law 350 = .ok (.invokevirtual 124, 3) := by decide +kernel
theorem dL_law_353 : decode cL_law 353 = .ok (.iload 5, 2) := by decide +kernel
theorem dL_law_355 : decode cL_law 355 = .ok (.if_icmp .eq 5, 3) := by decide +kernel
theorem dL_law_358 : decode cL_law 358 = .ok (.iconst 0, 1) := by decide +kernel
theorem dL_law_359 : decode cL_law 359 = .ok (.ireturn, 1) := by decide +kernel
theorem dL_law_360 : decode cL_law 360 = .ok (.iload 5, 2) := by decide +kernel
theorem dL_law_362 : decode cL_law 362 = .ok (.ifCond .ne 15, 3) := by decide +kernel
theorem dL_law_365 : decode cL_law 365 = .ok (.aload_n 3, 1) := by decide +kernel
theorem dL_law_366 : decode cL_law 366 = .ok (.iconst 0, 1) := by decide +kernel
theorem dL_law_367 : decode cL_law 367 = .ok (.laload, 1) := by decide +kernel
theorem dL_law_368 : decode cL_law 368 = .ok (.iload 6, 2) := by decide +kernel
theorem dL_law_370 : decode cL_law 370 = .ok (.i2l, 1) := by decide +kernel
theorem dL_law_371 : decode cL_law 371 = .ok (.lcmp, 1) := by decide +kernel
theorem dL_law_372 : decode cL_law 372 = .ok (.ifCond .eq 5, 3) := by decide +kernel
theorem dL_law_375 : decode cL_law 375 = .ok (.iconst 0, 1) := by decide +kernel
theorem dL_law_376 : decode cL_law 376 = .ok (.ireturn, 1) := by decide +kernel
theorem dL_law_377 : decode cL_law 377 = .ok (.goto 1979, 3) := by decide +kernel
theorem dL_law_380 : decode cL_law 380 = .ok (.aload_n 1, 1) := by decide +kernel
theorem dL_law_381 : decode cL_law 381 = .ok (.aload_n 0, 1) := by decide +kernel
theorem dL_law_382 : decode cL_law 382 = .ok (.iload 4, 2) := by decide +kernel
theorem dL_law_384 : decode cL_law 384 = .ok (.iconst 1, 1) := by decide +kernel
theorem dL_law_385 : decode cL_law 385 = .ok (.iadd, 1) := by decide +kernel
theorem dL_law_386 : decode cL_law 386 = .ok (.iaload, 1) := by decide +kernel
theorem dL_law_387 : decode cL_law 387 = .ok (.aload_n 0, 1) := by decide +kernel
theorem dL_law_388 : decode cL_law 388 = .ok (.iload 4, 2) := by decide +kernel
theorem dL_law_390 : decode cL_law 390 = .ok (.iconst 2, 1) := by decide +kernel
theorem dL_law_391 : decode cL_law 391 = .ok (.iadd, 1) := by decide +kernel
theorem dL_law_392 : decode cL_law 392 = .ok (.iaload, 1) := by decide +kernel
theorem dL_law_393 : decode cL_law 393 = .ok (.aload_n 0, 1) := by decide +kernel
theorem dL_law_394 : decode cL_law 394 = .ok (.iload 4, 2) := by decide +kernel
theorem dL_law_396 : decode cL_law 396 = .ok (.iconst 3, 1) := by decide +kernel
theorem dL_law_397 : decode cL_law 397 = .ok (.iadd, 1) := by decide +kernel
theorem dL_law_398 : decode cL_law 398 = .ok (.iaload, 1) := by decide +kernel
theorem dL_law_399 : decode cL_law 399 = .ok (.aload_n 3, 1) := by decide +kernel
theorem dL_law_400 : decode cL_law 400 = .ok (.invokestatic 132, 3) := by decide +kernel
theorem dL_law_403 : decode cL_law 403 = .ok (.istore 5, 2) := by decide +kernel
theorem dL_law_405 : decode cL_law 405 = .ok (.aload_n 2, 1) := by decide +kernel
theorem dL_law_406 : decode cL_law 406 = .ok (.aload_n 0, 1) := by decide +kernel
theorem dL_law_407 : decode cL_law 407 = .ok (.iload 4, 2) := by decide +kernel
theorem dL_law_409 : decode cL_law 409 = .ok (.iconst 1, 1) := by decide +kernel
theorem dL_law_410 : decode cL_law 410 = .ok (.iadd, 1) := by decide +kernel
theorem dL_law_411 : decode cL_law 411 = .ok (.iaload, 1) := by decide +kernel
theorem dL_law_412 : decode cL_law 412 = .ok (.aload_n 0, 1) := by decide +kernel
theorem dL_law_413 : decode cL_law 413 = .ok (.iload 4, 2) := by decide +kernel
theorem dL_law_415 : decode cL_law 415 = .ok (.iconst 2, 1) := by decide +kernel
theorem dL_law_416 : decode cL_law 416 = .ok (.iadd, 1) := by decide +kernel
theorem dL_law_417 : decode cL_law 417 = .ok (.iaload, 1) := by decide +kernel
theorem dL_law_418 : decode cL_law 418 = .ok (.aload_n 0, 1) := by decide +kernel
theorem dL_law_419 : decode cL_law 419 = .ok (.iload 4, 2) := by decide +kernel
theorem dL_law_421 : decode cL_law 421 = .ok (.iconst 3, 1) := by decide +kernel
theorem dL_law_422 : decode cL_law 422 = .ok (.iadd, 1) := by decide +kernel
theorem dL_law_423 : decode cL_law 423 = .ok (.iaload, 1) := by decide +kernel
theorem dL_law_424 : decode cL_law 424 = .ok (.invokevirtual 134, 3) := by decide +kernel
theorem dL_law_427 : decode cL_law 427 = .ok (.istore 6, 2) := by decide +kernel
theorem dL_law_429 : decode cL_law 429 = .ok (.aload_n 2, 1) := by decide +kernel
theorem dL_law_430 : decode cL_law 430 = .ok (.invokevirtual 124, 3) := by decide +kernel
theorem dL_law_433 : decode cL_law 433 = .ok (.iload 5, 2) := by decide +kernel
theorem dL_law_435 : decode cL_law 435 = .ok (.if_icmp .eq 5, 3) := by decide +kernel
theorem dL_law_438 : decode cL_law 438 = .ok (.iconst 0, 1) := by decide +kernel
theorem dL_law_439 : decode cL_law 439 = .ok (.ireturn, 1) := by decide +kernel
theorem dL_law_440 : decode cL_law 440 = .ok (.iload 5, 2) := by decide +kernel
theorem dL_law_442 : decode cL_law 442 = .ok (.ifCond .ne 15, 3) := by decide +kernel
theorem dL_law_445 : decode cL_law 445 = .ok (.aload_n 3, 1) := by decide +kernel
theorem dL_law_446 : decode cL_law 446 = .ok (.iconst 0, 1) := by decide +kernel
theorem dL_law_447 : decode cL_law 447 = .ok (.laload, 1) := by decide +kernel
theorem dL_law_448 : decode cL_law 448 = .ok (.iload 6, 2) := by decide +kernel
theorem dL_law_450 : decode cL_law 450 = .ok (.i2l, 1) := by decide +kernel
theorem dL_law_451 : decode cL_law 451 = .ok (.lcmp, 1) := by decide +kernel
theorem dL_law_452 : decode cL_law 452 = .ok (.ifCond .eq 5, 3) := by decide +kernel
theorem dL_law_455 : decode cL_law 455 = .ok (.iconst 0, 1) := by decide +kernel
theorem dL_law_456 : decode cL_law 456 = .ok (.ireturn, 1) := by decide +kernel
theorem dL_law_457 : decode cL_law 457 = .ok (.goto 1899, 3) := by decide +kernel
theorem dL_law_460 : decode cL_law 460 = .ok (.aload_n 1, 1) := by decide +kernel
theorem dL_law_461 : decode cL_law 461 = .ok (.aload_n 0, 1) := by decide +kernel
theorem dL_law_462 : decode cL_law 462 = .ok (.iload 4, 2) := by decide +kernel
theorem dL_law_464 : decode cL_law 464 = .ok (.iconst 1, 1) := by decide +kernel
theorem dL_law_465 : decode cL_law 465 = .ok (.iadd, 1) := by decide +kernel
theorem dL_law_466 : decode cL_law 466 = .ok (.iaload, 1) := by decide +kernel
theorem dL_law_467 : decode cL_law 467 = .ok (.aload_n 0, 1) := by decide +kernel
theorem dL_law_468 : decode cL_law 468 = .ok (.iload 4, 2) := by decide +kernel
theorem dL_law_470 : decode cL_law 470 = .ok (.iconst 2, 1) := by decide +kernel
theorem dL_law_471 : decode cL_law 471 = .ok (.iadd, 1) := by decide +kernel
theorem dL_law_472 : decode cL_law 472 = .ok (.iaload, 1) := by decide +kernel
theorem dL_law_473 : decode cL_law 473 = .ok (.aload_n 3, 1) := by decide +kernel
theorem dL_law_474 : decode cL_law 474 = .ok (.invokestatic 135, 3) := by decide +kernel
theorem dL_law_477 : decode cL_law 477 = .ok (.istore 5, 2) := by decide +kernel
theorem dL_law_479 : decode cL_law 479 = .ok (.aload_n 2, 1) := by decide +kernel
theorem dL_law_480 : decode cL_law 480 = .ok (.aload_n 0, 1) := by decide +kernel
theorem dL_law_481 : decode cL_law 481 = .ok (.iload 4, 2) := by decide +kernel
theorem dL_law_483 : decode cL_law 483 = .ok (.iconst 1, 1) := by decide +kernel
theorem dL_law_484 : decode cL_law 484 = .ok (.iadd, 1) := by decide +kernel
theorem dL_law_485 : decode cL_law 485 = .ok (.iaload, 1) := by decide +kernel
theorem dL_law_486 : decode cL_law 486 = .ok (.aload_n 0, 1) := by decide +kernel
theorem dL_law_487 : decode cL_law 487 = .ok (.iload 4, 2) := by decide +kernel
theorem dL_law_489 : decode cL_law 489 = .ok (.iconst 2, 1) := by decide +kernel
theorem dL_law_490 : decode cL_law 490 = .ok (.iadd, 1) := by decide +kernel
theorem dL_law_491 : decode cL_law 491 = .ok (.iaload, 1) := by decide +kernel
theorem dL_law_492 : decode cL_law 492 = .ok (.invokevirtual 138, 3) := by decide +kernel
theorem dL_law_495 : decode cL_law 495 = .ok (.istore 6, 2) := by decide +kernel
theorem dL_law_497 : decode cL_law 497 = .ok (.aload_n 2, 1) := by decide +kernel
theorem dL_law_498 : decode cL_law 498 = .ok (.invokevirtual 124, 3) := by decide +kernel
theorem dL_law_501 : decode cL_law 501 = .ok (.iload 5, 2) := by decide +kernel
theorem dL_law_503 : decode cL_law 503 = .ok (.if_icmp .eq 5, 3) := by decide +kernel
theorem dL_law_506 : decode cL_law 506 = .ok (.iconst 0, 1) := by decide +kernel
theorem dL_law_507 : decode cL_law 507 = .ok (.ireturn, 1) := by decide +kernel
theorem dL_law_508 : decode cL_law 508 = .ok (.iload 5, 2) := by decide +kernel
theorem dL_law_510 : decode cL_law 510 = .ok (.ifCond .ne 15, 3) := by decide +kernel
theorem dL_law_513 : decode cL_law 513 = .ok (.aload_n 3, 1) := by decide +kernel
theorem dL_law_514 : decode cL_law 514 = .ok (.iconst 0, 1) := by decide +kernel
theorem dL_law_515 : decode cL_law 515 = .ok (.laload, 1) := by decide +kernel
theorem dL_law_516 : decode cL_law 516 = .ok (.iload 6, 2) := by decide +kernel
theorem dL_law_518 : decode cL_law 518 = .ok (.i2l, 1) := by decide +kernel
theorem dL_law_519 : decode cL_law 519 = .ok (.lcmp, 1) := by decide +kernel
theorem dL_law_520 : decode cL_law 520 = .ok (.ifCond .eq 5, 3) := by decide +kernel
theorem dL_law_523 : decode cL_law 523 = .ok (.iconst 0, 1) := by decide +kernel
theorem dL_law_524 : decode cL_law 524 = .ok (.ireturn, 1) := by decide +kernel
theorem dL_law_525 : decode cL_law 525 = .ok (.goto 1831, 3) := by decide +kernel
theorem dL_law_528 : decode cL_law 528 = .ok (.aload_n 1, 1) := by decide +kernel
theorem dL_law_529 : decode cL_law 529 = .ok (.aload_n 0, 1) := by decide +kernel
theorem dL_law_530 : decode cL_law 530 = .ok (.iload 4, 2) := by decide +kernel
theorem dL_law_532 : decode cL_law 532 = .ok (.iconst 1, 1) := by decide +kernel
theorem dL_law_533 : decode cL_law 533 = .ok (.iadd, 1) := by decide +kernel
theorem dL_law_534 : decode cL_law 534 = .ok (.iaload, 1) := by decide +kernel
theorem dL_law_535 : decode cL_law 535 = .ok (.aload_n 0, 1) := by decide +kernel
theorem dL_law_536 : decode cL_law 536 = .ok (.iload 4, 2) := by decide +kernel
theorem dL_law_538 : decode cL_law 538 = .ok (.iconst 2, 1) := by decide +kernel
theorem dL_law_539 : decode cL_law 539 = .ok (.iadd, 1) := by decide +kernel
theorem dL_law_540 : decode cL_law 540 = .ok (.iaload, 1) := by decide +kernel
theorem dL_law_541 : decode cL_law 541 = .ok (.aload_n 0, 1) := by decide +kernel
theorem dL_law_542 : decode cL_law 542 = .ok (.iload 4, 2) := by decide +kernel
theorem dL_law_544 : decode cL_law 544 = .ok (.iconst 3, 1) := by decide +kernel
theorem dL_law_545 : decode cL_law 545 = .ok (.iadd, 1) := by decide +kernel
theorem dL_law_546 : decode cL_law 546 = .ok (.iaload, 1) := by decide +kernel
theorem dL_law_547 : decode cL_law 547 = .ok (.aload_n 0, 1) := by decide +kernel
theorem dL_law_548 : decode cL_law 548 = .ok (.iload 4, 2) := by decide +kernel
theorem dL_law_550 : decode cL_law 550 = .ok (.iconst 4, 1) := by decide +kernel
theorem dL_law_551 : decode cL_law 551 = .ok (.iadd, 1) := by decide +kernel
theorem dL_law_552 : decode cL_law 552 = .ok (.iaload, 1) := by decide +kernel
theorem dL_law_553 : decode cL_law 553 = .ok (.aload_n 3, 1) := by decide +kernel
theorem dL_law_554 : decode cL_law 554 = .ok (.invokestatic 139, 3) := by decide +kernel
theorem dL_law_557 : decode cL_law 557 = .ok (.istore 5, 2) := by decide +kernel
theorem dL_law_559 : decode cL_law 559 = .ok (.aload_n 2, 1) := by decide +kernel
theorem dL_law_560 : decode cL_law 560 = .ok (.aload_n 0, 1) := by decide +kernel
theorem dL_law_561 : decode cL_law 561 = .ok (.iload 4, 2) := by decide +kernel
theorem dL_law_563 : decode cL_law 563 = .ok (.iconst 1, 1) := by decide +kernel
theorem dL_law_564 : decode cL_law 564 = .ok (.iadd, 1) := by decide +kernel
theorem dL_law_565 : decode cL_law 565 = .ok (.iaload, 1) := by decide +kernel
theorem dL_law_566 : decode cL_law 566 = .ok (.aload_n 0, 1) := by decide +kernel
theorem dL_law_567 : decode cL_law 567 = .ok (.iload 4, 2) := by decide +kernel
theorem dL_law_569 : decode cL_law 569 = .ok (.iconst 2, 1) := by decide +kernel
theorem dL_law_570 : decode cL_law 570 = .ok (.iadd, 1) := by decide +kernel
theorem dL_law_571 : decode cL_law 571 = .ok (.iaload, 1) := by decide +kernel
theorem dL_law_572 : decode cL_law 572 = .ok (.aload_n 0, 1) := by decide +kernel
theorem dL_law_573 : decode cL_law 573 = .ok (.iload 4, 2) := by decide +kernel
theorem dL_law_575 : decode cL_law 575 = .ok (.iconst 3, 1) := by decide +kernel
theorem dL_law_576 : decode cL_law 576 = .ok (.iadd, 1) := by decide +kernel
theorem dL_law_577 : decode cL_law 577 = .ok (.iaload, 1) := by decide +kernel
theorem dL_law_578 : decode cL_law 578 = .ok (.aload_n 0, 1) := by decide +kernel
theorem dL_law_579 : decode cL_law 579 = .ok (.iload 4, 2) := by decide +kernel
theorem dL_law_581 : decode cL_law 581 = .ok (.iconst 4, 1) := by decide +kernel
theorem dL_law_582 : decode cL_law 582 = .ok (.iadd, 1) := by decide +kernel
theorem dL_law_583 : decode cL_law 583 = .ok (.iaload, 1) := by decide +kernel
theorem dL_law_584 : decode cL_law 584 = .ok (.invokevirtual 141, 3) := by decide +kernel
theorem dL_law_587 : decode cL_law 587 = .ok (.istore 6, 2) := by decide +kernel
theorem dL_law_589 : decode cL_law 589 = .ok (.aload_n 2, 1) := by decide +kernel
theorem dL_law_590 : decode cL_law 590 = .ok (.invokevirtual 124, 3) := by decide +kernel
theorem dL_law_593 : decode cL_law 593 = .ok (.iload 5, 2) := by decide +kernel
theorem dL_law_595 : decode cL_law 595 = .ok (.if_icmp .eq 5, 3) := by decide +kernel
theorem dL_law_598 : decode cL_law 598 = .ok (.iconst 0, 1) := by decide +kernel
theorem dL_law_599 : decode cL_law 599 = .ok (.ireturn, 1) := by decide +kernel
theorem dL_law_600 : decode cL_law 600 = .ok (.iload 5, 2) := by decide +kernel
theorem dL_law_602 : decode cL_law 602 = .ok (.ifCond .ne 15, 3) := by decide +kernel
theorem dL_law_605 : decode cL_law 605 = .ok (.aload_n 3, 1) := by decide +kernel
theorem dL_law_606 : decode cL_law 606 = .ok (.iconst 0, 1) := by decide +kernel
theorem dL_law_607 : decode cL_law 607 = .ok (.laload, 1) := by decide +kernel
theorem dL_law_608 : decode cL_law 608 = .ok (.iload 6, 2) := by decide +kernel
theorem dL_law_610 : decode cL_law 610 = .ok (.i2l, 1) := by decide +kernel
theorem dL_law_611 : decode cL_law 611 = .ok (.lcmp, 1) := by decide +kernel
theorem dL_law_612 : decode cL_law 612 = .ok (.ifCond .eq 5, 3) := by decide +kernel
theorem dL_law_615 : decode cL_law 615 = .ok (.iconst 0, 1) := by decide +kernel
theorem dL_law_616 : decode cL_law 616 = .ok (.ireturn, 1) := by decide +kernel
theorem dL_law_617 : decode cL_law 617 = .ok (.goto 1739, 3) := by decide +kernel
theorem dL_law_620 : decode cL_law 620 = .ok (.aload_n 1, 1) := by decide +kernel
theorem dL_law_621 : decode cL_law 621 = .ok (.aload_n 0, 1) := by decide +kernel
theorem dL_law_622 : decode cL_law 622 = .ok (.iload 4, 2) := by decide +kernel
theorem dL_law_624 : decode cL_law 624 = .ok (.iconst 1, 1) := by decide +kernel
theorem dL_law_625 : decode cL_law 625 = .ok (.iadd, 1) := by decide +kernel
theorem dL_law_626 : decode cL_law 626 = .ok (.iaload, 1) := by decide +kernel
theorem dL_law_627 : decode cL_law 627 = .ok (.aload_n 0, 1) := by decide +kernel
theorem dL_law_628 : decode cL_law 628 = .ok (.iload 4, 2) := by decide +kernel
theorem dL_law_630 : decode cL_law 630 = .ok (.iconst 2, 1) := by decide +kernel
theorem dL_law_631 : decode cL_law 631 = .ok (.iadd, 1) := by decide +kernel
theorem dL_law_632 : decode cL_law 632 = .ok (.iaload, 1) := by decide +kernel
theorem dL_law_633 : decode cL_law 633 = .ok (.aload_n 0, 1) := by decide +kernel
theorem dL_law_634 : decode cL_law 634 = .ok (.iload 4, 2) := by decide +kernel
theorem dL_law_636 : decode cL_law 636 = .ok (.iconst 3, 1) := by decide +kernel
theorem dL_law_637 : decode cL_law 637 = .ok (.iadd, 1) := by decide +kernel
theorem dL_law_638 : decode cL_law 638 = .ok (.iaload, 1) := by decide +kernel
theorem dL_law_639 : decode cL_law 639 = .ok (.aload_n 0, 1) := by decide +kernel
theorem dL_law_640 : decode cL_law 640 = .ok (.iload 4, 2) := by decide +kernel
theorem dL_law_642 : decode cL_law 642 = .ok (.iconst 4, 1) := by decide +kernel
theorem dL_law_643 : decode cL_law 643 = .ok (.iadd, 1) := by decide +kernel
theorem dL_law_644 : decode cL_law 644 = .ok (.iaload, 1) := by decide +kernel
theorem dL_law_645 : decode cL_law 645 = .ok (.aload_n 0, 1) := by decide +kernel
theorem dL_law_646 : decode cL_law 646 = .ok (.iload 4, 2) := by decide +kernel
theorem dL_law_648 : decode cL_law 648 = .ok (.iconst 5, 1) := by decide +kernel
theorem dL_law_649 : decode cL_law 649 = .ok (.iadd, 1) := by decide +kernel
theorem dL_law_650 : decode cL_law 650 = .ok (.iaload, 1) := by decide +kernel
theorem dL_law_651 : decode cL_law 651 = .ok (.aload_n 0, 1) := by decide +kernel
theorem dL_law_652 : decode cL_law 652 = .ok (.iload 4, 2) := by decide +kernel
theorem dL_law_654 : decode cL_law 654 = .ok (.bipush 6, 2) := by decide +kernel
theorem dL_law_656 : decode cL_law 656 = .ok (.iadd, 1) := by decide +kernel
theorem dL_law_657 : decode cL_law 657 = .ok (.iaload, 1) := by decide +kernel
theorem dL_law_658 : decode cL_law 658 = .ok (.aload_n 3, 1) := by decide +kernel
theorem dL_law_659 : decode cL_law 659 = .ok (.invokestatic 142, 3) := by decide +kernel
theorem dL_law_662 : decode cL_law 662 = .ok (.istore 5, 2) := by decide +kernel
theorem dL_law_664 : decode cL_law 664 = .ok (.aload_n 2, 1) := by decide +kernel
theorem dL_law_665 : decode cL_law 665 = .ok (.aload_n 0, 1) := by decide +kernel
theorem dL_law_666 : decode cL_law 666 = .ok (.iload 4, 2) := by decide +kernel
theorem dL_law_668 : decode cL_law 668 = .ok (.iconst 1, 1) := by decide +kernel
theorem dL_law_669 : decode cL_law 669 = .ok (.iadd, 1) := by decide +kernel
theorem dL_law_670 : decode cL_law 670 = .ok (.iaload, 1) := by decide +kernel
theorem dL_law_671 : decode cL_law 671 = .ok (.aload_n 0, 1) := by decide +kernel
theorem dL_law_672 : decode cL_law 672 = .ok (.iload 4, 2) := by decide +kernel
theorem dL_law_674 : decode cL_law 674 = .ok (.iconst 2, 1) := by decide +kernel
theorem dL_law_675 : decode cL_law 675 = .ok (.iadd, 1) := by decide +kernel
theorem dL_law_676 : decode cL_law 676 = .ok (.iaload, 1) := by decide +kernel
theorem dL_law_677 : decode cL_law 677 = .ok (.aload_n 0, 1) := by decide +kernel
theorem dL_law_678 : decode cL_law 678 = .ok (.iload 4, 2) := by decide +kernel
theorem dL_law_680 : decode cL_law 680 = .ok (.iconst 3, 1) := by decide +kernel
theorem dL_law_681 : decode cL_law 681 = .ok (.iadd, 1) := by decide +kernel
theorem dL_law_682 : decode cL_law 682 = .ok (.iaload, 1) := by decide +kernel
theorem dL_law_683 : decode cL_law 683 = .ok (.aload_n 0, 1) := by decide +kernel
theorem dL_law_684 : decode cL_law 684 = .ok (.iload 4, 2) := by decide +kernel
theorem dL_law_686 : decode cL_law 686 = .ok (.iconst 4, 1) := by decide +kernel
theorem dL_law_687 : decode cL_law 687 = .ok (.iadd, 1) := by decide +kernel
theorem dL_law_688 : decode cL_law 688 = .ok (.iaload, 1) := by decide +kernel
theorem dL_law_689 : decode cL_law 689 = .ok (.aload_n 0, 1) := by decide +kernel
theorem dL_law_690 : decode cL_law 690 = .ok (.iload 4, 2) := by decide +kernel
theorem dL_law_692 : decode cL_law 692 = .ok (.iconst 5, 1) := by decide +kernel
theorem dL_law_693 : decode cL_law 693 = .ok (.iadd, 1) := by decide +kernel
theorem dL_law_694 : decode cL_law 694 = .ok (.iaload, 1) := by decide +kernel
theorem dL_law_695 : decode cL_law 695 = .ok (.aload_n 0, 1) := by decide +kernel
theorem dL_law_696 : decode cL_law 696 = .ok (.iload 4, 2) := by decide +kernel
theorem dL_law_698 : decode cL_law 698 = .ok (.bipush 6, 2) := by decide +kernel
theorem dL_law_700 : decode cL_law 700 = .ok (.iadd, 1) := by decide +kernel
theorem dL_law_701 : decode cL_law 701 = .ok (.iaload, 1) := by decide +kernel
theorem dL_law_702 : decode cL_law 702 = .ok (.invokevirtual 145, 3) := by decide +kernel
theorem dL_law_705 : decode cL_law 705 = .ok (.istore 6, 2) := by decide +kernel
theorem dL_law_707 : decode cL_law 707 = .ok (.aload_n 2, 1) := by decide +kernel
theorem dL_law_708 : decode cL_law 708 = .ok (.invokevirtual 124, 3) := by decide +kernel
theorem dL_law_711 : decode cL_law 711 = .ok (.iload 5, 2) := by decide +kernel
theorem dL_law_713 : decode cL_law 713 = .ok (.if_icmp .eq 5, 3) := by decide +kernel
theorem dL_law_716 : decode cL_law 716 = .ok (.iconst 0, 1) := by decide +kernel
theorem dL_law_717 : decode cL_law 717 = .ok (.ireturn, 1) := by decide +kernel
theorem dL_law_718 : decode cL_law 718 = .ok (.iload 5, 2) := by decide +kernel
theorem dL_law_720 : decode cL_law 720 = .ok (.ifCond .ne 15, 3) := by decide +kernel
theorem dL_law_723 : decode cL_law 723 = .ok (.aload_n 3, 1) := by decide +kernel
theorem dL_law_724 : decode cL_law 724 = .ok (.iconst 0, 1) := by decide +kernel
theorem dL_law_725 : decode cL_law 725 = .ok (.laload, 1) := by decide +kernel
theorem dL_law_726 : decode cL_law 726 = .ok (.iload 6, 2) := by decide +kernel
theorem dL_law_728 : decode cL_law 728 = .ok (.i2l, 1) := by decide +kernel
theorem dL_law_729 : decode cL_law 729 = .ok (.lcmp, 1) := by decide +kernel
theorem dL_law_730 : decode cL_law 730 = .ok (.ifCond .eq 5, 3) := by decide +kernel
theorem dL_law_733 : decode cL_law 733 = .ok (.iconst 0, 1) := by decide +kernel
theorem dL_law_734 : decode cL_law 734 = .ok (.ireturn, 1) := by decide +kernel
theorem dL_law_735 : decode cL_law 735 = .ok (.goto 1621, 3) := by decide +kernel
theorem dL_law_738 : decode cL_law 738 = .ok (.aload_n 1, 1) := by decide +kernel
theorem dL_law_739 : decode cL_law 739 = .ok (.invokevirtual 146, 3) := by decide +kernel
theorem dL_law_742 : decode cL_law 742 = .ok (.aload_n 2, 1) := by decide +kernel
theorem dL_law_743 : decode cL_law 743 = .ok (.invokevirtual 149, 3) := by decide +kernel
theorem dL_law_746 : decode cL_law 746 = .ok (.if_icmp .eq 1610, 3) := by decide +kernel
theorem dL_law_749 : decode cL_law 749 = .ok (.iconst 0, 1) := by decide +kernel
theorem dL_law_750 : decode cL_law 750 = .ok (.ireturn, 1) := by decide +kernel
theorem dL_law_751 : decode cL_law 751 = .ok (.aload_n 1, 1) := by decide +kernel
theorem dL_law_752 : decode cL_law 752 = .ok (.invokevirtual 150, 3) := by decide +kernel
theorem dL_law_755 : decode cL_law 755 = .ok (.aload_n 2, 1) := by decide +kernel
theorem dL_law_756 : decode cL_law 756 = .ok (.invokevirtual 153, 3) := by decide +kernel
theorem dL_law_759 : decode cL_law 759 = .ok (.if_icmp .eq 1597, 3) := by decide +kernel
theorem dL_law_762 : decode cL_law 762 = .ok (.iconst 0, 1) := by decide +kernel
theorem dL_law_763 : decode cL_law 763 = .ok (.ireturn, 1) := by decide +kernel
theorem dL_law_764 : decode cL_law 764 = .ok (.aload_n 1, 1) := by decide +kernel
theorem dL_law_765 : decode cL_law 765 = .ok (.invokevirtual 154, 3) := by decide +kernel
theorem dL_law_768 : decode cL_law 768 = .ok (.aload_n 2, 1) := by decide +kernel
theorem dL_law_769 : decode cL_law 769 = .ok (.invokevirtual 157, 3) := by decide +kernel
theorem dL_law_772 : decode cL_law 772 = .ok (.if_icmp .eq 1584, 3) := by decide +kernel
theorem dL_law_775 : decode cL_law 775 = .ok (.iconst 0, 1) := by decide +kernel
theorem dL_law_776 : decode cL_law 776 = .ok (.ireturn, 1) := by decide +kernel
theorem dL_law_777 : decode cL_law 777 = .ok (.aload_n 1, 1) := by decide +kernel
theorem dL_law_778 : decode cL_law 778 = .ok (.aload_n 0, 1) := by decide +kernel
theorem dL_law_779 : decode cL_law 779 = .ok (.iload 4, 2) := by decide +kernel
theorem dL_law_781 : decode cL_law 781 = .ok (.iconst 1, 1) := by decide +kernel
theorem dL_law_782 : decode cL_law 782 = .ok (.iadd, 1) := by decide +kernel
theorem dL_law_783 : decode cL_law 783 = .ok (.iaload, 1) := by decide +kernel
theorem dL_law_784 : decode cL_law 784 = .ok (.aload_n 3, 1) := by decide +kernel
theorem dL_law_785 : decode cL_law 785 = .ok (.invokestatic 158, 3) := by decide +kernel
theorem dL_law_788 : decode cL_law 788 = .ok (.istore 5, 2) := by decide +kernel
theorem dL_law_790 : decode cL_law 790 = .ok (.aload_n 2, 1) := by decide +kernel
theorem dL_law_791 : decode cL_law 791 = .ok (.aload_n 0, 1) := by decide +kernel
theorem dL_law_792 : decode cL_law 792 = .ok (.iload 4, 2) := by decide +kernel
theorem dL_law_794 : decode cL_law 794 = .ok (.iconst 1, 1) := by decide +kernel
theorem dL_law_795 : decode cL_law 795 = .ok (.iadd, 1) := by decide +kernel
theorem dL_law_796 : decode cL_law 796 = .ok (.iaload, 1) := by decide +kernel
theorem dL_law_797 : decode cL_law 797 = .ok (.invokevirtual 161, 3) := by decide +kernel
theorem dL_law_800 : decode cL_law 800 = .ok (.istore 6, 2) := by decide +kernel
theorem dL_law_802 : decode cL_law 802 = .ok (.aload_n 2, 1) := by decide +kernel
theorem dL_law_803 : decode cL_law 803 = .ok (.invokevirtual 124, 3) := by decide +kernel
theorem dL_law_806 : decode cL_law 806 = .ok (.iload 5, 2) := by decide +kernel
theorem dL_law_808 : decode cL_law 808 = .ok (.if_icmp .eq 5, 3) := by decide +kernel
theorem dL_law_811 : decode cL_law 811 = .ok (.iconst 0, 1) := by decide +kernel
theorem dL_law_812 : decode cL_law 812 = .ok (.ireturn, 1) := by decide +kernel
theorem dL_law_813 : decode cL_law 813 = .ok (.iload 5, 2) := by decide +kernel
theorem dL_law_815 : decode cL_law 815 = .ok (.ifCond .ne 15, 3) := by decide +kernel
theorem dL_law_818 : decode cL_law 818 = .ok (.aload_n 3, 1) := by decide +kernel
theorem dL_law_819 : decode cL_law 819 = .ok (.iconst 0, 1) := by decide +kernel
theorem dL_law_820 : decode cL_law 820 = .ok (.laload, 1) := by decide +kernel
theorem dL_law_821 : decode cL_law 821 = .ok (.iload 6, 2) := by decide +kernel
theorem dL_law_823 : decode cL_law 823 = .ok (.i2l, 1) := by decide +kernel
theorem dL_law_824 : decode cL_law 824 = .ok (.lcmp, 1) := by decide +kernel
theorem dL_law_825 : decode cL_law 825 = .ok (.ifCond .eq 5, 3) := by decide +kernel
theorem dL_law_828 : decode cL_law 828 = .ok (.iconst 0, 1) := by decide +kernel
theorem dL_law_829 : decode cL_law 829 = .ok (.ireturn, 1) := by decide +kernel
theorem dL_law_830 : decode cL_law 830 = .ok (.goto 1526, 3) := by decide +kernel
theorem dL_law_833 : decode cL_law 833 = .ok (.aload_n 1, 1) := by decide +kernel
theorem dL_law_834 : decode cL_law 834 = .ok (.aload_n 0, 1) := by decide +kernel
theorem dL_law_835 : decode cL_law 835 = .ok (.iload 4, 2) := by decide +kernel
theorem dL_law_837 : decode cL_law 837 = .ok (.iconst 1, 1) := by decide +kernel
theorem dL_law_838 : decode cL_law 838 = .ok (.iadd, 1) := by decide +kernel
theorem dL_law_839 : decode cL_law 839 = .ok (.iaload, 1) := by decide +kernel
theorem dL_law_840 : decode cL_law 840 = .ok (.aload_n 0, 1) := by decide +kernel
theorem dL_law_841 : decode cL_law 841 = .ok (.iload 4, 2) := by decide +kernel
theorem dL_law_843 : decode cL_law 843 = .ok (.iconst 2, 1) := by decide +kernel
theorem dL_law_844 : decode cL_law 844 = .ok (.iadd, 1) := by decide +kernel
theorem dL_law_845 : decode cL_law 845 = .ok (.iaload, 1) := by decide +kernel
theorem dL_law_846 : decode cL_law 846 = .ok (.aload_n 0, 1) := by decide +kernel
theorem dL_law_847 : decode cL_law 847 = .ok (.iload 4, 2) := by decide +kernel
theorem dL_law_849 : decode cL_law 849 = .ok (.iconst 3, 1) := by decide +kernel
theorem dL_law_850 : decode cL_law 850 = .ok (.iadd, 1) := by decide +kernel
theorem dL_law_851 : decode cL_law 851 = .ok (.iaload, 1) := by decide +kernel
theorem dL_law_852 : decode cL_law 852 = .ok (.aload_n 3, 1) := by decide +kernel
theorem dL_law_853 : decode cL_law 853 = .ok (.invokestatic 162, 3) := by decide +kernel
theorem dL_law_856 : decode cL_law 856 = .ok (.istore 5, 2) := by decide +kernel
theorem dL_law_858 : decode cL_law 858 = .ok (.aload_n 2, 1) := by decide +kernel
theorem dL_law_859 : decode cL_law 859 = .ok (.aload_n 0, 1) := by decide +kernel
theorem dL_law_860 : decode cL_law 860 = .ok (.iload 4, 2) := by decide +kernel
theorem dL_law_862 : decode cL_law 862 = .ok (.iconst 1, 1) := by decide +kernel
theorem dL_law_863 : decode cL_law 863 = .ok (.iadd, 1) := by decide +kernel
theorem dL_law_864 : decode cL_law 864 = .ok (.iaload, 1) := by decide +kernel
theorem dL_law_865 : decode cL_law 865 = .ok (.aload_n 0, 1) := by decide +kernel
theorem dL_law_866 : decode cL_law 866 = .ok (.iload 4, 2) := by decide +kernel
theorem dL_law_868 : decode cL_law 868 = .ok (.iconst 2, 1) := by decide +kernel
theorem dL_law_869 : decode cL_law 869 = .ok (.iadd, 1) := by decide +kernel
theorem dL_law_870 : decode cL_law 870 = .ok (.iaload, 1) := by decide +kernel
theorem dL_law_871 : decode cL_law 871 = .ok (.aload_n 0, 1) := by decide +kernel
theorem dL_law_872 : decode cL_law 872 = .ok (.iload 4, 2) := by decide +kernel
theorem dL_law_874 : decode cL_law 874 = .ok (.iconst 3, 1) := by decide +kernel
theorem dL_law_875 : decode cL_law 875 = .ok (.iadd, 1) := by decide +kernel
theorem dL_law_876 : decode cL_law 876 = .ok (.iaload, 1) := by decide +kernel
theorem dL_law_877 : decode cL_law 877 = .ok (.invokevirtual 164, 3) := by decide +kernel
theorem dL_law_880 : decode cL_law 880 = .ok (.istore 6, 2) := by decide +kernel
theorem dL_law_882 : decode cL_law 882 = .ok (.aload_n 2, 1) := by decide +kernel
theorem dL_law_883 : decode cL_law 883 = .ok (.invokevirtual 124, 3) := by decide +kernel
theorem dL_law_886 : decode cL_law 886 = .ok (.iload 5, 2) := by decide +kernel
theorem dL_law_888 : decode cL_law 888 = .ok (.if_icmp .eq 5, 3) := by decide +kernel
theorem dL_law_891 : decode cL_law 891 = .ok (.iconst 0, 1) := by decide +kernel
theorem dL_law_892 : decode cL_law 892 = .ok (.ireturn, 1) := by decide +kernel
theorem dL_law_893 : decode cL_law 893 = .ok (.iload 5, 2) := by decide +kernel
theorem dL_law_895 : decode cL_law 895 = .ok (.ifCond .ne 15, 3) := by decide +kernel
theorem dL_law_898 : decode cL_law 898 = .ok (.aload_n 3, 1) := by decide +kernel
theorem dL_law_899 : decode cL_law 899 = .ok (.iconst 0, 1) := by decide +kernel
theorem dL_law_900 : decode cL_law 900 = .ok (.laload, 1) := by decide +kernel
theorem dL_law_901 : decode cL_law 901 = .ok (.iload 6, 2) := by decide +kernel
theorem dL_law_903 : decode cL_law 903 = .ok (.i2l, 1) := by decide +kernel
theorem dL_law_904 : decode cL_law 904 = .ok (.lcmp, 1) := by decide +kernel
theorem dL_law_905 : decode cL_law 905 = .ok (.ifCond .eq 5, 3) := by decide +kernel
theorem dL_law_908 : decode cL_law 908 = .ok (.iconst 0, 1) := by decide +kernel
theorem dL_law_909 : decode cL_law 909 = .ok (.ireturn, 1) := by decide +kernel
theorem dL_law_910 : decode cL_law 910 = .ok (.goto 1446, 3) := by decide +kernel
theorem dL_law_913 : decode cL_law 913 = .ok (.aload_n 1, 1) := by decide +kernel
theorem dL_law_914 : decode cL_law 914 = .ok (.aload_n 0, 1) := by decide +kernel
theorem dL_law_915 : decode cL_law 915 = .ok (.iload 4, 2) := by decide +kernel
theorem dL_law_917 : decode cL_law 917 = .ok (.iconst 1, 1) := by decide +kernel
theorem dL_law_918 : decode cL_law 918 = .ok (.iadd, 1) := by decide +kernel
theorem dL_law_919 : decode cL_law 919 = .ok (.iaload, 1) := by decide +kernel
theorem dL_law_920 : decode cL_law 920 = .ok (.aload_n 0, 1) := by decide +kernel
theorem dL_law_921 : decode cL_law 921 = .ok (.iload 4, 2) := by decide +kernel
theorem dL_law_923 : decode cL_law 923 = .ok (.iconst 2, 1) := by decide +kernel
theorem dL_law_924 : decode cL_law 924 = .ok (.iadd, 1) := by decide +kernel
theorem dL_law_925 : decode cL_law 925 = .ok (.iaload, 1) := by decide +kernel
theorem dL_law_926 : decode cL_law 926 = .ok (.aload_n 0, 1) := by decide +kernel
theorem dL_law_927 : decode cL_law 927 = .ok (.iload 4, 2) := by decide +kernel
theorem dL_law_929 : decode cL_law 929 = .ok (.iconst 3, 1) := by decide +kernel
theorem dL_law_930 : decode cL_law 930 = .ok (.iadd, 1) := by decide +kernel
theorem dL_law_931 : decode cL_law 931 = .ok (.iaload, 1) := by decide +kernel
theorem dL_law_932 : decode cL_law 932 = .ok (.aload_n 3, 1) := by decide +kernel
theorem dL_law_933 : decode cL_law 933 = .ok (.invokestatic 165, 3) := by decide +kernel
theorem dL_law_936 : decode cL_law 936 = .ok (.istore 5, 2) := by decide +kernel
theorem dL_law_938 : decode cL_law 938 = .ok (.aload_n 2, 1) := by decide +kernel
theorem dL_law_939 : decode cL_law 939 = .ok (.aload_n 0, 1) := by decide +kernel
theorem dL_law_940 : decode cL_law 940 = .ok (.iload 4, 2) := by decide +kernel
theorem dL_law_942 : decode cL_law 942 = .ok (.iconst 1, 1) := by decide +kernel
theorem dL_law_943 : decode cL_law 943 = .ok (.iadd, 1) := by decide +kernel
theorem dL_law_944 : decode cL_law 944 = .ok (.iaload, 1) := by decide +kernel
theorem dL_law_945 : decode cL_law 945 = .ok (.aload_n 0, 1) := by decide +kernel
theorem dL_law_946 : decode cL_law 946 = .ok (.iload 4, 2) := by decide +kernel
theorem dL_law_948 : decode cL_law 948 = .ok (.iconst 2, 1) := by decide +kernel
theorem dL_law_949 : decode cL_law 949 = .ok (.iadd, 1) := by decide +kernel
theorem dL_law_950 : decode cL_law 950 = .ok (.iaload, 1) := by decide +kernel
theorem dL_law_951 : decode cL_law 951 = .ok (.aload_n 0, 1) := by decide +kernel
theorem dL_law_952 : decode cL_law 952 = .ok (.iload 4, 2) := by decide +kernel
theorem dL_law_954 : decode cL_law 954 = .ok (.iconst 3, 1) := by decide +kernel
theorem dL_law_955 : decode cL_law 955 = .ok (.iadd, 1) := by decide +kernel
theorem dL_law_956 : decode cL_law 956 = .ok (.iaload, 1) := by decide +kernel
theorem dL_law_957 : decode cL_law 957 = .ok (.invokevirtual 167, 3) := by decide +kernel
theorem dL_law_960 : decode cL_law 960 = .ok (.istore 6, 2) := by decide +kernel
theorem dL_law_962 : decode cL_law 962 = .ok (.aload_n 2, 1) := by decide +kernel
theorem dL_law_963 : decode cL_law 963 = .ok (.invokevirtual 124, 3) := by decide +kernel
theorem dL_law_966 : decode cL_law 966 = .ok (.iload 5, 2) := by decide +kernel
theorem dL_law_968 : decode cL_law 968 = .ok (.if_icmp .eq 5, 3) := by decide +kernel
theorem dL_law_971 : decode cL_law 971 = .ok (.iconst 0, 1) := by decide +kernel
theorem dL_law_972 : decode cL_law 972 = .ok (.ireturn, 1) := by decide +kernel
theorem dL_law_973 : decode cL_law 973 = .ok (.iload 5, 2) := by decide +kernel
theorem dL_law_975 : decode cL_law 975 = .ok (.ifCond .ne 15, 3) := by decide +kernel
theorem dL_law_978 : decode cL_law 978 = .ok (.aload_n 3, 1) := by decide +kernel
theorem dL_law_979 : decode cL_law 979 = .ok (.iconst 0, 1) := by decide +kernel
theorem dL_law_980 : decode cL_law 980 = .ok (.laload, 1) := by decide +kernel
theorem dL_law_981 : decode cL_law 981 = .ok (.iload 6, 2) := by decide +kernel
theorem dL_law_983 : decode cL_law 983 = .ok (.i2l, 1) := by decide +kernel
theorem dL_law_984 : decode cL_law 984 = .ok (.lcmp, 1) := by decide +kernel
theorem dL_law_985 : decode cL_law 985 = .ok (.ifCond .eq 5, 3) := by decide +kernel
theorem dL_law_988 : decode cL_law 988 = .ok (.iconst 0, 1) := by decide +kernel
theorem dL_law_989 : decode cL_law 989 = .ok (.ireturn, 1) := by decide +kernel
theorem dL_law_990 : decode cL_law 990 = .ok (.goto 1366, 3) := by decide +kernel
theorem dL_law_993 : decode cL_law 993 = .ok (.aload_n 1, 1) := by decide +kernel
theorem dL_law_994 : decode cL_law 994 = .ok (.aload_n 0, 1) := by decide +kernel
theorem dL_law_995 : decode cL_law 995 = .ok (.iload 4, 2) := by decide +kernel
theorem dL_law_997 : decode cL_law 997 = .ok (.iconst 1, 1) := by decide +kernel
theorem dL_law_998 : decode cL_law 998 = .ok (.iadd, 1) := by decide +kernel
theorem dL_law_999 : decode cL_law 999 = .ok (.iaload, 1) := by decide +kernel
theorem dL_law_1000 : decode cL_law 1000 = .ok (.aload_n 3, 1) := by decide +kernel
theorem dL_law_1001 : decode cL_law 1001 = .ok (.invokestatic 168, 3) := by decide +kernel
theorem dL_law_1004 : decode cL_law 1004 = .ok (.istore 5, 2) := by decide +kernel
theorem dL_law_1006 : decode cL_law 1006 = .ok (.aload_n 2, 1) := by decide +kernel
theorem dL_law_1007 : decode cL_law 1007 = .ok (.aload_n 0, 1) := by decide +kernel
theorem dL_law_1008 : decode cL_law 1008 = .ok (.iload 4, 2) := by decide +kernel
theorem dL_law_1010 : decode cL_law 1010 = .ok (.iconst 1, 1) := by decide +kernel
theorem dL_law_1011 : decode cL_law 1011 = .ok (.iadd, 1) := by decide +kernel
theorem dL_law_1012 : decode cL_law 1012 = .ok (.iaload, 1) := by decide +kernel
theorem dL_law_1013 : decode cL_law 1013 = .ok (.invokevirtual 170, 3) := by decide +kernel
theorem dL_law_1016 : decode cL_law 1016 = .ok (.istore 6, 2) := by decide +kernel
theorem dL_law_1018 : decode cL_law 1018 = .ok (.aload_n 2, 1) := by decide +kernel
theorem dL_law_1019 : decode cL_law 1019 = .ok (.invokevirtual 124, 3) := by decide +kernel
theorem dL_law_1022 : decode cL_law 1022 = .ok (.iload 5, 2) := by decide +kernel
theorem dL_law_1024 : decode cL_law 1024 = .ok (.if_icmp .eq 5, 3) := by decide +kernel
theorem dL_law_1027 : decode cL_law 1027 = .ok (.iconst 0, 1) := by decide +kernel
theorem dL_law_1028 : decode cL_law 1028 = .ok (.ireturn, 1) := by decide +kernel
theorem dL_law_1029 : decode cL_law 1029 = .ok (.iload 5, 2) := by decide +kernel
theorem dL_law_1031 : decode cL_law 1031 = .ok (.ifCond .ne 15, 3) := by decide +kernel
theorem dL_law_1034 : decode cL_law 1034 = .ok (.aload_n 3, 1) := by decide +kernel
theorem dL_law_1035 : decode cL_law 1035 = .ok (.iconst 0, 1) := by decide +kernel
theorem dL_law_1036 : decode cL_law 1036 = .ok (.laload, 1) := by decide +kernel
theorem dL_law_1037 : decode cL_law 1037 = .ok (.iload 6, 2) := by decide +kernel
theorem dL_law_1039 : decode cL_law 1039 = .ok (.i2l, 1) := by decide +kernel
theorem dL_law_1040 : decode cL_law 1040 = .ok (.lcmp, 1) := by decide +kernel
theorem dL_law_1041 : decode cL_law 1041 = .ok (.ifCond .eq 5, 3) := by decide +kernel
theorem dL_law_1044 : decode cL_law 1044 = .ok (.iconst 0, 1) := by decide +kernel
theorem dL_law_1045 : decode cL_law 1045 = .ok (.ireturn, 1) := by decide +kernel
theorem dL_law_1046 : decode cL_law 1046 = .ok (.goto 1310, 3) := by decide +kernel
theorem dL_law_1049 : decode cL_law 1049 = .ok (.aload_n 1, 1) := by decide +kernel
theorem dL_law_1050 : decode cL_law 1050 = .ok (.aload_n 0, 1) := by decide +kernel
theorem dL_law_1051 : decode cL_law 1051 = .ok (.iload 4, 2) := by decide +kernel
theorem dL_law_1053 : decode cL_law 1053 = .ok (.iconst 1, 1) := by decide +kernel
theorem dL_law_1054 : decode cL_law 1054 = .ok (.iadd, 1) := by decide +kernel
theorem dL_law_1055 : decode cL_law 1055 = .ok (.iaload, 1) := by decide +kernel
theorem dL_law_1056 : decode cL_law 1056 = .ok (.aload_n 3, 1) := by decide +kernel
theorem dL_law_1057 : decode cL_law 1057 = .ok (.invokestatic 171, 3) := by decide +kernel
theorem dL_law_1060 : decode cL_law 1060 = .ok (.istore 5, 2) := by decide +kernel
theorem dL_law_1062 : decode cL_law 1062 = .ok (.aload_n 2, 1) := by decide +kernel
theorem dL_law_1063 : decode cL_law 1063 = .ok (.aload_n 0, 1) := by decide +kernel
theorem dL_law_1064 : decode cL_law 1064 = .ok (.iload 4, 2) := by decide +kernel
theorem dL_law_1066 : decode cL_law 1066 = .ok (.iconst 1, 1) := by decide +kernel
theorem dL_law_1067 : decode cL_law 1067 = .ok (.iadd, 1) := by decide +kernel
theorem dL_law_1068 : decode cL_law 1068 = .ok (.iaload, 1) := by decide +kernel
theorem dL_law_1069 : decode cL_law 1069 = .ok (.invokevirtual 173, 3) := by decide +kernel
theorem dL_law_1072 : decode cL_law 1072 = .ok (.istore 6, 2) := by decide +kernel
theorem dL_law_1074 : decode cL_law 1074 = .ok (.aload_n 2, 1) := by decide +kernel
theorem dL_law_1075 : decode cL_law 1075 = .ok (.invokevirtual 124, 3) := by decide +kernel
theorem dL_law_1078 : decode cL_law 1078 = .ok (.iload 5, 2) := by decide +kernel
theorem dL_law_1080 : decode cL_law 1080 = .ok (.if_icmp .eq 5, 3) := by decide +kernel
theorem dL_law_1083 : decode cL_law 1083 = .ok (.iconst 0, 1) := by decide +kernel
theorem dL_law_1084 : decode cL_law 1084 = .ok (.ireturn, 1) := by decide +kernel
theorem dL_law_1085 : decode cL_law 1085 = .ok (.iload 5, 2) := by decide +kernel
theorem dL_law_1087 : decode cL_law 1087 = .ok (.ifCond .ne 15, 3) := by decide +kernel
theorem dL_law_1090 : decode cL_law 1090 = .ok (.aload_n 3, 1) := by decide +kernel
theorem dL_law_1091 : decode cL_law 1091 = .ok (.iconst 0, 1) := by decide +kernel
theorem dL_law_1092 : decode cL_law 1092 = .ok (.laload, 1) := by decide +kernel
theorem dL_law_1093 : decode cL_law 1093 = .ok (.iload 6, 2) := by decide +kernel
theorem dL_law_1095 : decode cL_law 1095 = .ok (.i2l, 1) := by decide +kernel
theorem dL_law_1096 : decode cL_law 1096 = .ok (.lcmp, 1) := by decide +kernel
theorem dL_law_1097 : decode cL_law 1097 = .ok (.ifCond .eq 5, 3) := by decide +kernel
theorem dL_law_1100 : decode cL_law 1100 = .ok (.iconst 0, 1) := by decide +kernel
theorem dL_law_1101 : decode cL_law 1101 = .ok (.ireturn, 1) := by decide +kernel
theorem dL_law_1102 : decode cL_law 1102 = .ok (.goto 1254, 3) := by decide +kernel
theorem dL_law_1105 : decode cL_law 1105 = .ok (.aload_n 1, 1) := by decide +kernel
theorem dL_law_1106 : decode cL_law 1106 = .ok (.aload_n 0, 1) := by decide +kernel
theorem dL_law_1107 : decode cL_law 1107 = .ok (.iload 4, 2) := by decide +kernel
theorem dL_law_1109 : decode cL_law 1109 = .ok (.iconst 1, 1) := by decide +kernel
theorem dL_law_1110 : decode cL_law 1110 = .ok (.iadd, 1) := by decide +kernel
theorem dL_law_1111 : decode cL_law 1111 = .ok (.iaload, 1) := by decide +kernel
theorem dL_law_1112 : decode cL_law 1112 = .ok (.aload_n 3, 1) := by decide +kernel
theorem dL_law_1113 : decode cL_law 1113 = .ok (.invokestatic 174, 3) := by decide +kernel
theorem dL_law_1116 : decode cL_law 1116 = .ok (.istore 5, 2) := by decide +kernel
theorem dL_law_1118 : decode cL_law 1118 = .ok (.aload_n 2, 1) := by decide +kernel
theorem dL_law_1119 : decode cL_law 1119 = .ok (.aload_n 0, 1) := by decide +kernel
theorem dL_law_1120 : decode cL_law 1120 = .ok (.iload 4, 2) := by decide +kernel
theorem dL_law_1122 : decode cL_law 1122 = .ok (.iconst 1, 1) := by decide +kernel
theorem dL_law_1123 : decode cL_law 1123 = .ok (.iadd, 1) := by decide +kernel
theorem dL_law_1124 : decode cL_law 1124 = .ok (.iaload, 1) := by decide +kernel
theorem dL_law_1125 : decode cL_law 1125 = .ok (.invokevirtual 176, 3) := by decide +kernel
theorem dL_law_1128 : decode cL_law 1128 = .ok (.istore 6, 2) := by decide +kernel
theorem dL_law_1130 : decode cL_law 1130 = .ok (.aload_n 2, 1) := by decide +kernel
theorem dL_law_1131 : decode cL_law 1131 = .ok (.invokevirtual 124, 3) := by decide +kernel
theorem dL_law_1134 : decode cL_law 1134 = .ok (.iload 5, 2) := by decide +kernel
theorem dL_law_1136 : decode cL_law 1136 = .ok (.if_icmp .eq 5, 3) := by decide +kernel
theorem dL_law_1139 : decode cL_law 1139 = .ok (.iconst 0, 1) := by decide +kernel
theorem dL_law_1140 : decode cL_law 1140 = .ok (.ireturn, 1) := by decide +kernel
theorem dL_law_1141 : decode cL_law 1141 = .ok (.iload 5, 2) := by decide +kernel
theorem dL_law_1143 : decode cL_law 1143 = .ok (.ifCond .ne 15, 3) := by decide +kernel
theorem dL_law_1146 : decode cL_law 1146 = .ok (.aload_n 3, 1) := by decide +kernel
theorem dL_law_1147 : decode cL_law 1147 = .ok (.iconst 0, 1) := by decide +kernel
theorem dL_law_1148 : decode cL_law 1148 = .ok (.laload, 1) := by decide +kernel
theorem dL_law_1149 : decode cL_law 1149 = .ok (.iload 6, 2) := by decide +kernel
theorem dL_law_1151 : decode cL_law 1151 = .ok (.i2l, 1) := by decide +kernel
theorem dL_law_1152 : decode cL_law 1152 = .ok (.lcmp, 1) := by decide +kernel
theorem dL_law_1153 : decode cL_law 1153 = .ok (.ifCond .eq 5, 3) := by decide +kernel
theorem dL_law_1156 : decode cL_law 1156 = .ok (.iconst 0, 1) := by decide +kernel
theorem dL_law_1157 : decode cL_law 1157 = .ok (.ireturn, 1) := by decide +kernel
theorem dL_law_1158 : decode cL_law 1158 = .ok (.goto 1198, 3) := by decide +kernel
theorem dL_law_1161 : decode cL_law 1161 = .ok (.aload_n 1, 1) := by decide +kernel
theorem dL_law_1162 : decode cL_law 1162 = .ok (.aload_n 0, 1) := by decide +kernel
theorem dL_law_1163 : decode cL_law 1163 = .ok (.iload 4, 2) := by decide +kernel
theorem dL_law_1165 : decode cL_law 1165 = .ok (.iconst 1, 1) := by decide +kernel
theorem dL_law_1166 : decode cL_law 1166 = .ok (.iadd, 1) := by decide +kernel
theorem dL_law_1167 : decode cL_law 1167 = .ok (.iaload, 1) := by decide +kernel
theorem dL_law_1168 : decode cL_law 1168 = .ok (.aload_n 0, 1) := by decide +kernel
theorem dL_law_1169 : decode cL_law 1169 = .ok (.iload 4, 2) := by decide +kernel
theorem dL_law_1171 : decode cL_law 1171 = .ok (.iconst 2, 1) := by decide +kernel
theorem dL_law_1172 : decode cL_law 1172 = .ok (.iadd, 1) := by decide +kernel
theorem dL_law_1173 : decode cL_law 1173 = .ok (.iaload, 1) := by decide +kernel
theorem dL_law_1174 : decode cL_law 1174 = .ok (.aload_n 3, 1) := by decide +kernel
theorem dL_law_1175 : decode cL_law 1175 = .ok (.invokestatic 177, 3) := by decide +kernel
theorem dL_law_1178 : decode cL_law 1178 = .ok (.istore 5, 2) := by decide +kernel
theorem dL_law_1180 : decode cL_law 1180 = .ok (.aload_n 2, 1) := by decide +kernel
theorem dL_law_1181 : decode cL_law 1181 = .ok (.aload_n 0, 1) := by decide +kernel
theorem dL_law_1182 : decode cL_law 1182 = .ok (.iload 4, 2) := by decide +kernel
theorem dL_law_1184 : decode cL_law 1184 = .ok (.iconst 1, 1) := by decide +kernel
theorem dL_law_1185 : decode cL_law 1185 = .ok (.iadd, 1) := by decide +kernel
theorem dL_law_1186 : decode cL_law 1186 = .ok (.iaload, 1) := by decide +kernel
theorem dL_law_1187 : decode cL_law 1187 = .ok (.aload_n 0, 1) := by decide +kernel
theorem dL_law_1188 : decode cL_law 1188 = .ok (.iload 4, 2) := by decide +kernel
theorem dL_law_1190 : decode cL_law 1190 = .ok (.iconst 2, 1) := by decide +kernel
theorem dL_law_1191 : decode cL_law 1191 = .ok (.iadd, 1) := by decide +kernel
theorem dL_law_1192 : decode cL_law 1192 = .ok (.iaload, 1) := by decide +kernel
theorem dL_law_1193 : decode cL_law 1193 = .ok (.invokevirtual 179, 3) := by decide +kernel
theorem dL_law_1196 : decode cL_law 1196 = .ok (.istore 6, 2) := by decide +kernel
theorem dL_law_1198 : decode cL_law 1198 = .ok (.aload_n 2, 1) := by decide +kernel
theorem dL_law_1199 : decode cL_law 1199 = .ok (.invokevirtual 124, 3) := by decide +kernel
theorem dL_law_1202 : decode cL_law 1202 = .ok (.iload 5, 2) := by decide +kernel
theorem dL_law_1204 : decode cL_law 1204 = .ok (.if_icmp .eq 5, 3) := by decide +kernel
theorem dL_law_1207 : decode cL_law 1207 = .ok (.iconst 0, 1) := by decide +kernel
theorem dL_law_1208 : decode cL_law 1208 = .ok (.ireturn, 1) := by decide +kernel
theorem dL_law_1209 : decode cL_law 1209 = .ok (.iload 5, 2) := by decide +kernel
theorem dL_law_1211 : decode cL_law 1211 = .ok (.ifCond .ne 15, 3) := by decide +kernel
theorem dL_law_1214 : decode cL_law 1214 = .ok (.aload_n 3, 1) := by decide +kernel
theorem dL_law_1215 : decode cL_law 1215 = .ok (.iconst 0, 1) := by decide +kernel
theorem dL_law_1216 : decode cL_law 1216 = .ok (.laload, 1) := by decide +kernel
theorem dL_law_1217 : decode cL_law 1217 = .ok (.iload 6, 2) := by decide +kernel
theorem dL_law_1219 : decode cL_law 1219 = .ok (.i2l, 1) := by decide +kernel
theorem dL_law_1220 : decode cL_law 1220 = .ok (.lcmp, 1) := by decide +kernel
theorem dL_law_1221 : decode cL_law 1221 = .ok (.ifCond .eq 5, 3) := by decide +kernel
theorem dL_law_1224 : decode cL_law 1224 = .ok (.iconst 0, 1) := by decide +kernel
theorem dL_law_1225 : decode cL_law 1225 = .ok (.ireturn, 1) := by decide +kernel
theorem dL_law_1226 : decode cL_law 1226 = .ok (.goto 1130, 3) := by decide +kernel
theorem dL_law_1229 : decode cL_law 1229 = .ok (.aload_n 1, 1) := by decide +kernel
theorem dL_law_1230 : decode cL_law 1230 = .ok (.aload_n 0, 1) := by decide +kernel
theorem dL_law_1231 : decode cL_law 1231 = .ok (.iload 4, 2) := by decide +kernel
theorem dL_law_1233 : decode cL_law 1233 = .ok (.iconst 1, 1) := by decide +kernel
theorem dL_law_1234 : decode cL_law 1234 = .ok (.iadd, 1) := by decide +kernel
theorem dL_law_1235 : decode cL_law 1235 = .ok (.iaload, 1) := by decide +kernel
theorem dL_law_1236 : decode cL_law 1236 = .ok (.aload_n 3, 1) := by decide +kernel
theorem dL_law_1237 : decode cL_law 1237 = .ok (.invokestatic 180, 3) := by decide +kernel
theorem dL_law_1240 : decode cL_law 1240 = .ok (.istore 5, 2) := by decide +kernel
theorem dL_law_1242 : decode cL_law 1242 = .ok (.aload_n 2, 1) := by decide +kernel
theorem dL_law_1243 : decode cL_law 1243 = .ok (.aload_n 0, 1) := by decide +kernel
theorem dL_law_1244 : decode cL_law 1244 = .ok (.iload 4, 2) := by decide +kernel
theorem dL_law_1246 : decode cL_law 1246 = .ok (.iconst 1, 1) := by decide +kernel
theorem dL_law_1247 : decode cL_law 1247 = .ok (.iadd, 1) := by decide +kernel
theorem dL_law_1248 : decode cL_law 1248 = .ok (.iaload, 1) := by decide +kernel
theorem dL_law_1249 : decode cL_law 1249 = .ok (.invokevirtual 182, 3) := by decide +kernel
theorem dL_law_1252 : decode cL_law 1252 = .ok (.istore 6, 2) := by decide +kernel
theorem dL_law_1254 : decode cL_law 1254 = .ok (.aload_n 2, 1) := by decide +kernel
theorem dL_law_1255 : decode cL_law 1255 = .ok (.invokevirtual 124, 3) := by decide +kernel
theorem dL_law_1258 : decode cL_law 1258 = .ok (.iload 5, 2) := by decide +kernel
theorem dL_law_1260 : decode cL_law 1260 = .ok (.if_icmp .eq 5, 3) := by decide +kernel
theorem dL_law_1263 : decode cL_law 1263 = .ok (.iconst 0, 1) := by decide +kernel
theorem dL_law_1264 : decode cL_law 1264 = .ok (.ireturn, 1) := by decide +kernel
theorem dL_law_1265 : decode cL_law 1265 = .ok (.iload 5, 2) := by decide +kernel
theorem dL_law_1267 : decode cL_law 1267 = .ok (.ifCond .ne 15, 3) := by decide +kernel
theorem dL_law_1270 : decode cL_law 1270 = .ok (.aload_n 3, 1) := by decide +kernel
theorem dL_law_1271 : decode cL_law 1271 = .ok (.iconst 0, 1) := by decide +kernel
theorem dL_law_1272 : decode cL_law 1272 = .ok (.laload, 1) := by decide +kernel
theorem dL_law_1273 : decode cL_law 1273 = .ok (.iload 6, 2) := by decide +kernel
theorem dL_law_1275 : decode cL_law 1275 = .ok (.i2l, 1) := by decide +kernel
theorem dL_law_1276 : decode cL_law 1276 = .ok (.lcmp, 1) := by decide +kernel
theorem dL_law_1277 : decode cL_law 1277 = .ok (.ifCond .eq 5, 3) := by decide +kernel
theorem dL_law_1280 : decode cL_law 1280 = .ok (.iconst 0, 1) := by decide +kernel
theorem dL_law_1281 : decode cL_law 1281 = .ok (.ireturn, 1) := by decide +kernel
theorem dL_law_1282 : decode cL_law 1282 = .ok (.goto 1074, 3) := by decide +kernel
theorem dL_law_1285 : decode cL_law 1285 = .ok (.aload_n 1, 1) := by decide +kernel
theorem dL_law_1286 : decode cL_law 1286 = .ok (.aload_n 0, 1) := by decide +kernel
theorem dL_law_1287 : decode cL_law 1287 = .ok (.iload 4, 2) := by decide +kernel
theorem dL_law_1289 : decode cL_law 1289 = .ok (.iconst 1, 1) := by decide +kernel
theorem dL_law_1290 : decode cL_law 1290 = .ok (.iadd, 1) := by decide +kernel
theorem dL_law_1291 : decode cL_law 1291 = .ok (.iaload, 1) := by decide +kernel
theorem dL_law_1292 : decode cL_law 1292 = .ok (.aload_n 0, 1) := by decide +kernel
theorem dL_law_1293 : decode cL_law 1293 = .ok (.iload 4, 2) := by decide +kernel
theorem dL_law_1295 : decode cL_law 1295 = .ok (.iconst 2, 1) := by decide +kernel
theorem dL_law_1296 : decode cL_law 1296 = .ok (.iadd, 1) := by decide +kernel
theorem dL_law_1297 : decode cL_law 1297 = .ok (.iaload, 1) := by decide +kernel
theorem dL_law_1298 : decode cL_law 1298 = .ok (.aload_n 3, 1) := by decide +kernel
theorem dL_law_1299 : decode cL_law 1299 = .ok (.invokestatic 183, 3) := by decide +kernel
theorem dL_law_1302 : decode cL_law 1302 = .ok (.istore 5, 2) := by decide +kernel
theorem dL_law_1304 : decode cL_law 1304 = .ok (.aload_n 2, 1) := by decide +kernel
theorem dL_law_1305 : decode cL_law 1305 = .ok (.aload_n 0, 1) := by decide +kernel
theorem dL_law_1306 : decode cL_law 1306 = .ok (.iload 4, 2) := by decide +kernel
theorem dL_law_1308 : decode cL_law 1308 = .ok (.iconst 1, 1) := by decide +kernel
theorem dL_law_1309 : decode cL_law 1309 = .ok (.iadd, 1) := by decide +kernel
theorem dL_law_1310 : decode cL_law 1310 = .ok (.iaload, 1) := by decide +kernel
theorem dL_law_1311 : decode cL_law 1311 = .ok (.aload_n 0, 1) := by decide +kernel
theorem dL_law_1312 : decode cL_law 1312 = .ok (.iload 4, 2) := by decide +kernel
theorem dL_law_1314 : decode cL_law 1314 = .ok (.iconst 2, 1) := by decide +kernel
theorem dL_law_1315 : decode cL_law 1315 = .ok (.iadd, 1) := by decide +kernel
theorem dL_law_1316 : decode cL_law 1316 = .ok (.iaload, 1) := by decide +kernel
theorem dL_law_1317 : decode cL_law 1317 = .ok (.invokevirtual 185, 3) := by decide +kernel
theorem dL_law_1320 : decode cL_law 1320 = .ok (.istore 6, 2) := by decide +kernel
theorem dL_law_1322 : decode cL_law 1322 = .ok (.aload_n 2, 1) := by decide +kernel
theorem dL_law_1323 : decode cL_law 1323 = .ok (.invokevirtual 124, 3) := by decide +kernel
theorem dL_law_1326 : decode cL_law 1326 = .ok (.iload 5, 2) := by decide +kernel
theorem dL_law_1328 : decode cL_law 1328 = .ok (.if_icmp .eq 5, 3) := by decide +kernel
theorem dL_law_1331 : decode cL_law 1331 = .ok (.iconst 0, 1) := by decide +kernel
theorem dL_law_1332 : decode cL_law 1332 = .ok (.ireturn, 1) := by decide +kernel
theorem dL_law_1333 : decode cL_law 1333 = .ok (.iload 5, 2) := by decide +kernel
theorem dL_law_1335 : decode cL_law 1335 = .ok (.ifCond .ne 15, 3) := by decide +kernel
theorem dL_law_1338 : decode cL_law 1338 = .ok (.aload_n 3, 1) := by decide +kernel
theorem dL_law_1339 : decode cL_law 1339 = .ok (.iconst 0, 1) := by decide +kernel
theorem dL_law_1340 : decode cL_law 1340 = .ok (.laload, 1) := by decide +kernel
theorem dL_law_1341 : decode cL_law 1341 = .ok (.iload 6, 2) := by decide +kernel
theorem dL_law_1343 : decode cL_law 1343 = .ok (.i2l, 1) := by decide +kernel
theorem dL_law_1344 : decode cL_law 1344 = .ok (.lcmp, 1) := by decide +kernel
theorem dL_law_1345 : decode cL_law 1345 = .ok (.ifCond .eq 5, 3) := by decide +kernel
theorem dL_law_1348 : decode cL_law 1348 = .ok (.iconst 0, 1) := by decide +kernel
theorem dL_law_1349 : decode cL_law 1349 = .ok (.ireturn, 1) := by decide +kernel
theorem dL_law_1350 : decode cL_law 1350 = .ok (.goto 1006, 3) := by decide +kernel
theorem dL_law_1353 : decode cL_law 1353 = .ok (.aload_n 1, 1) := by decide +kernel
theorem dL_law_1354 : decode cL_law 1354 = .ok (.aload_n 0, 1) := by decide +kernel
theorem dL_law_1355 : decode cL_law 1355 = .ok (.iload 4, 2) := by decide +kernel
theorem dL_law_1357 : decode cL_law 1357 = .ok (.iconst 1, 1) := by decide +kernel
theorem dL_law_1358 : decode cL_law 1358 = .ok (.iadd, 1) := by decide +kernel
theorem dL_law_1359 : decode cL_law 1359 = .ok (.iaload, 1) := by decide +kernel
theorem dL_law_1360 : decode cL_law 1360 = .ok (.aload_n 0, 1) := by decide +kernel
theorem dL_law_1361 : decode cL_law 1361 = .ok (.iload 4, 2) := by decide +kernel
theorem dL_law_1363 : decode cL_law 1363 = .ok (.iconst 2, 1) := by decide +kernel
theorem dL_law_1364 : decode cL_law 1364 = .ok (.iadd, 1) := by decide +kernel
theorem dL_law_1365 : decode cL_law 1365 = .ok (.iaload, 1) := by decide +kernel
theorem dL_law_1366 : decode cL_law 1366 = .ok (.aload_n 3, 1) := by decide +kernel
theorem dL_law_1367 : decode cL_law 1367 = .ok (.invokestatic 186, 3) := by decide +kernel
theorem dL_law_1370 : decode cL_law 1370 = .ok (.istore 5, 2) := by decide +kernel
theorem dL_law_1372 : decode cL_law 1372 = .ok (.aload_n 2, 1) := by decide +kernel
theorem dL_law_1373 : decode cL_law 1373 = .ok (.aload_n 0, 1) := by decide +kernel
theorem dL_law_1374 : decode cL_law 1374 = .ok (.iload 4, 2) := by decide +kernel
theorem dL_law_1376 : decode cL_law 1376 = .ok (.iconst 1, 1) := by decide +kernel
theorem dL_law_1377 : decode cL_law 1377 = .ok (.iadd, 1) := by decide +kernel
theorem dL_law_1378 : decode cL_law 1378 = .ok (.iaload, 1) := by decide +kernel
theorem dL_law_1379 : decode cL_law 1379 = .ok (.aload_n 0, 1) := by decide +kernel
theorem dL_law_1380 : decode cL_law 1380 = .ok (.iload 4, 2) := by decide +kernel
theorem dL_law_1382 : decode cL_law 1382 = .ok (.iconst 2, 1) := by decide +kernel
theorem dL_law_1383 : decode cL_law 1383 = .ok (.iadd, 1) := by decide +kernel
theorem dL_law_1384 : decode cL_law 1384 = .ok (.iaload, 1) := by decide +kernel
theorem dL_law_1385 : decode cL_law 1385 = .ok (.invokevirtual 188, 3) := by decide +kernel
theorem dL_law_1388 : decode cL_law 1388 = .ok (.istore 6, 2) := by decide +kernel
theorem dL_law_1390 : decode cL_law 1390 = .ok (.aload_n 2, 1) := by decide +kernel
theorem dL_law_1391 : decode cL_law 1391 = .ok (.invokevirtual 124, 3) := by decide +kernel
theorem dL_law_1394 : decode cL_law 1394 = .ok (.iload 5, 2) := by decide +kernel
theorem dL_law_1396 : decode cL_law 1396 = .ok (.if_icmp .eq 5, 3) := by decide +kernel
theorem dL_law_1399 : decode cL_law 1399 = .ok (.iconst 0, 1) := by decide +kernel
theorem dL_law_1400 : decode cL_law 1400 = .ok (.ireturn, 1) := by decide +kernel
theorem dL_law_1401 : decode cL_law 1401 = .ok (.iload 5, 2) := by decide +kernel
theorem dL_law_1403 : decode cL_law 1403 = .ok (.ifCond .ne 15, 3) := by decide +kernel
theorem dL_law_1406 : decode cL_law 1406 = .ok (.aload_n 3, 1) := by decide +kernel
theorem dL_law_1407 : decode cL_law 1407 = .ok (.iconst 0, 1) := by decide +kernel
theorem dL_law_1408 : decode cL_law 1408 = .ok (.laload, 1) := by decide +kernel
theorem dL_law_1409 : decode cL_law 1409 = .ok (.iload 6, 2) := by decide +kernel
theorem dL_law_1411 : decode cL_law 1411 = .ok (.i2l, 1) := by decide +kernel
theorem dL_law_1412 : decode cL_law 1412 = .ok (.lcmp, 1) := by decide +kernel
theorem dL_law_1413 : decode cL_law 1413 = .ok (.ifCond .eq 5, 3) := by decide +kernel
theorem dL_law_1416 : decode cL_law 1416 = .ok (.iconst 0, 1) := by decide +kernel
theorem dL_law_1417 : decode cL_law 1417 = .ok (.ireturn, 1) := by decide +kernel
theorem dL_law_1418 : decode cL_law 1418 = .ok (.goto 938, 3) := by decide +kernel
theorem dL_law_1421 : decode cL_law 1421 = .ok (.aload_n 1, 1) := by decide +kernel
theorem dL_law_1422 : decode cL_law 1422 = .ok (.invokevirtual 189, 3) := by decide +kernel
theorem dL_law_1425 : decode cL_law 1425 = .ok (.aload_n 2, 1) := by decide +kernel
theorem dL_law_1426 : decode cL_law 1426 = .ok (.invokevirtual 192, 3) := by decide +kernel
theorem dL_law_1429 : decode cL_law 1429 = .ok (.if_icmp .eq 927, 3) := by decide +kernel
theorem dL_law_1432 : decode cL_law 1432 = .ok (.iconst 0, 1) := by decide +kernel
theorem dL_law_1433 : decode cL_law 1433 = .ok (.ireturn, 1) := by decide +kernel
theorem dL_law_1434 : decode cL_law 1434 = .ok (.aload_n 1, 1) := by decide +kernel
theorem dL_law_1435 : decode cL_law 1435 = .ok (.aload_n 0, 1) := by decide +kernel
theorem dL_law_1436 : decode cL_law 1436 = .ok (.iload 4, 2) := by decide +kernel
theorem dL_law_1438 : decode cL_law 1438 = .ok (.iconst 1, 1) := by decide +kernel
theorem dL_law_1439 : decode cL_law 1439 = .ok (.iadd, 1) := by decide +kernel
theorem dL_law_1440 : decode cL_law 1440 = .ok (.iaload, 1) := by decide +kernel
theorem dL_law_1441 : decode cL_law 1441 = .ok (.aload_n 3, 1) := by decide +kernel
theorem dL_law_1442 : decode cL_law 1442 = .ok (.invokestatic 193, 3) := by decide +kernel
theorem dL_law_1445 : decode cL_law 1445 = .ok (.istore 5, 2) := by decide +kernel
theorem dL_law_1447 : decode cL_law 1447 = .ok (.aload_n 2, 1) := by decide +kernel
theorem dL_law_1448 : decode cL_law 1448 = .ok (.aload_n 0, 1) := by decide +kernel
theorem dL_law_1449 : decode cL_law 1449 = .ok (.iload 4, 2) := by decide +kernel
theorem dL_law_1451 : decode cL_law 1451 = .ok (.iconst 1, 1) := by decide +kernel
theorem dL_law_1452 : decode cL_law 1452 = .ok (.iadd, 1) := by decide +kernel
theorem dL_law_1453 : decode cL_law 1453 = .ok (.iaload, 1) := by decide +kernel
theorem dL_law_1454 : decode cL_law 1454 = .ok (.invokevirtual 195, 3) := by decide +kernel
theorem dL_law_1457 : decode cL_law 1457 = .ok (.istore 6, 2) := by decide +kernel
theorem dL_law_1459 : decode cL_law 1459 = .ok (.aload_n 2, 1) := by decide +kernel
theorem dL_law_1460 : decode cL_law 1460 = .ok (.invokevirtual 124, 3) := by decide +kernel
theorem dL_law_1463 : decode cL_law 1463 = .ok (.iload 5, 2) := by decide +kernel
theorem dL_law_1465 : decode cL_law 1465 = .ok (.if_icmp .eq 5, 3) := by decide +kernel
theorem dL_law_1468 : decode cL_law 1468 = .ok (.iconst 0, 1) := by decide +kernel
theorem dL_law_1469 : decode cL_law 1469 = .ok (.ireturn, 1) := by decide +kernel
theorem dL_law_1470 : decode cL_law 1470 = .ok (.iload 5, 2) := by decide +kernel
theorem dL_law_1472 : decode cL_law 1472 = .ok (.ifCond .ne 15, 3) := by decide +kernel
theorem dL_law_1475 : decode cL_law 1475 = .ok (.aload_n 3, 1) := by decide +kernel
theorem dL_law_1476 : decode cL_law 1476 = .ok (.iconst 0, 1) := by decide +kernel
theorem dL_law_1477 : decode cL_law 1477 = .ok (.laload, 1) := by decide +kernel
theorem dL_law_1478 : decode cL_law 1478 = .ok (.iload 6, 2) := by decide +kernel
theorem dL_law_1480 : decode cL_law 1480 = .ok (.i2l, 1) := by decide +kernel
theorem dL_law_1481 : decode cL_law 1481 = .ok (.lcmp, 1) := by decide +kernel
theorem dL_law_1482 : decode cL_law 1482 = .ok (.ifCond .eq 5, 3) := by decide +kernel
theorem dL_law_1485 : decode cL_law 1485 = .ok (.iconst 0, 1) := by decide +kernel
theorem dL_law_1486 : decode cL_law 1486 = .ok (.ireturn, 1) := by decide +kernel
theorem dL_law_1487 : decode cL_law 1487 = .ok (.goto 869, 3) := by decide +kernel
theorem dL_law_1490 : decode cL_law 1490 = .ok (.aload_n 1, 1) := by decide +kernel
theorem dL_law_1491 : decode cL_law 1491 = .ok (.aload_n 0, 1) := by decide +kernel
theorem dL_law_1492 : decode cL_law 1492 = .ok (.iload 4, 2) := by decide +kernel
theorem dL_law_1494 : decode cL_law 1494 = .ok (.iconst 1, 1) := by decide +kernel
theorem dL_law_1495 : decode cL_law 1495 = .ok (.iadd, 1) := by decide +kernel
theorem dL_law_1496 : decode cL_law 1496 = .ok (.iaload, 1) := by decide +kernel
theorem dL_law_1497 : decode cL_law 1497 = .ok (.aload_n 3, 1) := by decide +kernel
theorem dL_law_1498 : decode cL_law 1498 = .ok (.invokestatic 196, 3) := by decide +kernel
theorem dL_law_1501 : decode cL_law 1501 = .ok (.istore 5, 2) := by decide +kernel
theorem dL_law_1503 : decode cL_law 1503 = .ok (.aload_n 2, 1) := by decide +kernel
theorem dL_law_1504 : decode cL_law 1504 = .ok (.aload_n 0, 1) := by decide +kernel
theorem dL_law_1505 : decode cL_law 1505 = .ok (.iload 4, 2) := by decide +kernel
theorem dL_law_1507 : decode cL_law 1507 = .ok (.iconst 1, 1) := by decide +kernel
theorem dL_law_1508 : decode cL_law 1508 = .ok (.iadd, 1) := by decide +kernel
theorem dL_law_1509 : decode cL_law 1509 = .ok (.iaload, 1) := by decide +kernel
theorem dL_law_1510 : decode cL_law 1510 = .ok (.invokevirtual 198, 3) := by decide +kernel
theorem dL_law_1513 : decode cL_law 1513 = .ok (.istore 6, 2) := by decide +kernel
theorem dL_law_1515 : decode cL_law 1515 = .ok (.aload_n 2, 1) := by decide +kernel
theorem dL_law_1516 : decode cL_law 1516 = .ok (.invokevirtual 124, 3) := by decide +kernel
theorem dL_law_1519 : decode cL_law 1519 = .ok (.iload 5, 2) := by decide +kernel
theorem dL_law_1521 : decode cL_law 1521 = .ok (.if_icmp .eq 5, 3) := by decide +kernel
theorem dL_law_1524 : decode cL_law 1524 = .ok (.iconst 0, 1) := by decide +kernel
theorem dL_law_1525 : decode cL_law 1525 = .ok (.ireturn, 1) := by decide +kernel
theorem dL_law_1526 : decode cL_law 1526 = .ok (.iload 5, 2) := by decide +kernel
theorem dL_law_1528 : decode cL_law 1528 = .ok (.ifCond .ne 15, 3) := by decide +kernel
theorem dL_law_1531 : decode cL_law 1531 = .ok (.aload_n 3, 1) := by decide +kernel
theorem dL_law_1532 : decode cL_law 1532 = .ok (.iconst 0, 1) := by decide +kernel
theorem dL_law_1533 : decode cL_law 1533 = .ok (.laload, 1) := by decide +kernel
theorem dL_law_1534 : decode cL_law 1534 = .ok (.iload 6, 2) := by decide +kernel
theorem dL_law_1536 : decode cL_law 1536 = .ok (.i2l, 1) := by decide +kernel
theorem dL_law_1537 : decode cL_law 1537 = .ok (.lcmp, 1) := by decide +kernel
theorem dL_law_1538 : decode cL_law 1538 = .ok (.ifCond .eq 5, 3) := by decide +kernel
theorem dL_law_1541 : decode cL_law 1541 = .ok (.iconst 0, 1) := by decide +kernel
theorem dL_law_1542 : decode cL_law 1542 = .ok (.ireturn, 1) := by decide +kernel
theorem dL_law_1543 : decode cL_law 1543 = .ok (.goto 813, 3) := by decide +kernel
theorem dL_law_1546 : decode cL_law 1546 = .ok (.aload_n 1, 1) := by decide +kernel
theorem dL_law_1547 : decode cL_law 1547 = .ok (.aload_n 0, 1) := by decide +kernel
theorem dL_law_1548 : decode cL_law 1548 = .ok (.iload 4, 2) := by decide +kernel
theorem dL_law_1550 : decode cL_law 1550 = .ok (.iconst 1, 1) := by decide +kernel
theorem dL_law_1551 : decode cL_law 1551 = .ok (.iadd, 1) := by decide +kernel
theorem dL_law_1552 : decode cL_law 1552 = .ok (.iaload, 1) := by decide +kernel
theorem dL_law_1553 : decode cL_law 1553 = .ok (.aload_n 3, 1) := by decide +kernel
theorem dL_law_1554 : decode cL_law 1554 = .ok (.invokestatic 199, 3) := by decide +kernel
theorem dL_law_1557 : decode cL_law 1557 = .ok (.istore 5, 2) := by decide +kernel
theorem dL_law_1559 : decode cL_law 1559 = .ok (.aload_n 2, 1) := by decide +kernel
theorem dL_law_1560 : decode cL_law 1560 = .ok (.aload_n 0, 1) := by decide +kernel
theorem dL_law_1561 : decode cL_law 1561 = .ok (.iload 4, 2) := by decide +kernel
theorem dL_law_1563 : decode cL_law 1563 = .ok (.iconst 1, 1) := by decide +kernel
theorem dL_law_1564 : decode cL_law 1564 = .ok (.iadd, 1) := by decide +kernel
theorem dL_law_1565 : decode cL_law 1565 = .ok (.iaload, 1) := by decide +kernel
theorem dL_law_1566 : decode cL_law 1566 = .ok (.invokevirtual 201, 3) := by decide +kernel
theorem dL_law_1569 : decode cL_law 1569 = .ok (.istore 6, 2) := by decide +kernel
theorem dL_law_1571 : decode cL_law 1571 = .ok (.aload_n 2, 1) := by decide +kernel
theorem dL_law_1572 : decode cL_law 1572 = .ok (.invokevirtual 124, 3) := by decide +kernel
theorem dL_law_1575 : decode cL_law 1575 = .ok (.iload 5, 2) := by decide +kernel
theorem dL_law_1577 : decode cL_law 1577 = .ok (.if_icmp .eq 5, 3) := by decide +kernel
theorem dL_law_1580 : decode cL_law 1580 = .ok (.iconst 0, 1) := by decide +kernel
theorem dL_law_1581 : decode cL_law 1581 = .ok (.ireturn, 1) := by decide +kernel
theorem dL_law_1582 : decode cL_law 1582 = .ok (.iload 5, 2) := by decide +kernel
theorem dL_law_1584 : decode cL_law 1584 = .ok (.ifCond .ne 15, 3) := by decide +kernel
theorem dL_law_1587 : decode cL_law 1587 = .ok (.aload_n 3, 1) := by decide +kernel
theorem dL_law_1588 : decode cL_law 1588 = .ok (.iconst 0, 1) := by decide +kernel
theorem dL_law_1589 : decode cL_law 1589 = .ok (.laload, 1) := by decide +kernel
theorem dL_law_1590 : decode cL_law 1590 = .ok (.iload 6, 2) := by decide +kernel
theorem dL_law_1592 : decode cL_law 1592 = .ok (.i2l, 1) := by decide +kernel
theorem dL_law_1593 : decode cL_law 1593 = .ok (.lcmp, 1) := by decide +kernel
theorem dL_law_1594 : decode cL_law 1594 = .ok (.ifCond .eq 5, 3) := by decide +kernel
theorem dL_law_1597 : decode cL_law 1597 = .ok (.iconst 0, 1) := by decide +kernel
theorem dL_law_1598 : decode cL_law 1598 = .ok (.ireturn, 1) := by decide +kernel
theorem dL_law_1599 : decode cL_law 1599 = .ok (.goto 757, 3) := by decide +kernel
theorem dL_law_1602 : decode cL_law 1602 = .ok (.aload_n 1, 1) := by decide +kernel
theorem dL_law_1603 : decode cL_law 1603 = .ok (.aload_n 0, 1) := by decide +kernel
theorem dL_law_1604 : decode cL_law 1604 = .ok (.iload 4, 2) := by decide +kernel
theorem dL_law_1606 : decode cL_law 1606 = .ok (.iconst 1, 1) := by decide +kernel
theorem dL_law_1607 : decode cL_law 1607 = .ok (.iadd, 1) := by decide +kernel
theorem dL_law_1608 : decode cL_law 1608 = .ok (.iaload, 1) := by decide +kernel
theorem dL_law_1609 : decode cL_law 1609 = .ok (.aload_n 3, 1) := by decide +kernel
theorem dL_law_1610 : decode cL_law 1610 = .ok (.invokestatic 202, 3) := by decide +kernel
theorem dL_law_1613 : decode cL_law 1613 = .ok (.istore 5, 2) := by decide +kernel
theorem dL_law_1615 : decode cL_law 1615 = .ok (.aload_n 2, 1) := by decide +kernel
theorem dL_law_1616 : decode cL_law 1616 = .ok (.aload_n 0, 1) := by decide +kernel
theorem dL_law_1617 : decode cL_law 1617 = .ok (.iload 4, 2) := by decide +kernel
theorem dL_law_1619 : decode cL_law 1619 = .ok (.iconst 1, 1) := by decide +kernel
theorem dL_law_1620 : decode cL_law 1620 = .ok (.iadd, 1) := by decide +kernel
theorem dL_law_1621 : decode cL_law 1621 = .ok (.iaload, 1) := by decide +kernel
theorem dL_law_1622 : decode cL_law 1622 = .ok (.invokevirtual 204, 3) := by decide +kernel
theorem dL_law_1625 : decode cL_law 1625 = .ok (.istore 6, 2) := by decide +kernel
theorem dL_law_1627 : decode cL_law 1627 = .ok (.aload_n 2, 1) := by decide +kernel
theorem dL_law_1628 : decode cL_law 1628 = .ok (.invokevirtual 124, 3) := by decide +kernel
theorem dL_law_1631 : decode cL_law 1631 = .ok (.iload 5, 2) := by decide +kernel
theorem dL_law_1633 : decode cL_law 1633 = .ok (.if_icmp .eq 5, 3) := by decide +kernel
theorem dL_law_1636 : decode cL_law 1636 = .ok (.iconst 0, 1) := by decide +kernel
theorem dL_law_1637 : decode cL_law 1637 = .ok (.ireturn, 1) := by decide +kernel
theorem dL_law_1638 : decode cL_law 1638 = .ok (.iload 5, 2) := by decide +kernel
theorem dL_law_1640 : decode cL_law 1640 = .ok (.ifCond .ne 15, 3) := by decide +kernel
theorem dL_law_1643 : decode cL_law 1643 = .ok (.aload_n 3, 1) := by decide +kernel
theorem dL_law_1644 : decode cL_law 1644 = .ok (.iconst 0, 1) := by decide +kernel
theorem dL_law_1645 : decode cL_law 1645 = .ok (.laload, 1) := by decide +kernel
theorem dL_law_1646 : decode cL_law 1646 = .ok (.iload 6, 2) := by decide +kernel
theorem dL_law_1648 : decode cL_law 1648 = .ok (.i2l, 1) := by decide +kernel
theorem dL_law_1649 : decode cL_law 1649 = .ok (.lcmp, 1) := by decide +kernel
theorem dL_law_1650 : decode cL_law 1650 = .ok (.ifCond .eq 5, 3) := by decide +kernel
theorem dL_law_1653 : decode cL_law 1653 = .ok (.iconst 0, 1) := by decide +kernel
theorem dL_law_1654 : decode cL_law 1654 = .ok (.ireturn, 1) := by decide +kernel
theorem dL_law_1655 : decode cL_law 1655 = .ok (.goto 701, 3) := by decide +kernel
theorem dL_law_1658 : decode cL_law 1658 = .ok (.aload_n 1, 1) := by decide +kernel
theorem dL_law_1659 : decode cL_law 1659 = .ok (.aload_n 0, 1) := by decide +kernel
theorem dL_law_1660 : decode cL_law 1660 = .ok (.iload 4, 2) := by decide +kernel
theorem dL_law_1662 : decode cL_law 1662 = .ok (.iconst 1, 1) := by decide +kernel
theorem dL_law_1663 : decode cL_law 1663 = .ok (.iadd, 1) := by decide +kernel
theorem dL_law_1664 : decode cL_law 1664 = .ok (.iaload, 1) := by decide +kernel
theorem dL_law_1665 : decode cL_law 1665 = .ok (.aload_n 3, 1) := by decide +kernel
theorem dL_law_1666 : decode cL_law 1666 = .ok (.invokestatic 205, 3) := by decide +kernel
theorem dL_law_1669 : decode cL_law 1669 = .ok (.istore 5, 2) := by decide +kernel
theorem dL_law_1671 : decode cL_law 1671 = .ok (.aload_n 2, 1) := by decide +kernel
theorem dL_law_1672 : decode cL_law 1672 = .ok (.aload_n 0, 1) := by decide +kernel
theorem dL_law_1673 : decode cL_law 1673 = .ok (.iload 4, 2) := by decide +kernel
theorem dL_law_1675 : decode cL_law 1675 = .ok (.iconst 1, 1) := by decide +kernel
theorem dL_law_1676 : decode cL_law 1676 = .ok (.iadd, 1) := by decide +kernel
theorem dL_law_1677 : decode cL_law 1677 = .ok (.iaload, 1) := by decide +kernel
theorem dL_law_1678 : decode cL_law 1678 = .ok (.invokevirtual 207, 3) := by decide +kernel
theorem dL_law_1681 : decode cL_law 1681 = .ok (.istore 6, 2) := by decide +kernel
theorem dL_law_1683 : decode cL_law 1683 = .ok (.aload_n 2, 1) := by decide +kernel
theorem dL_law_1684 : decode cL_law 1684 = .ok (.invokevirtual 124, 3) := by decide +kernel
theorem dL_law_1687 : decode cL_law 1687 = .ok (.iload 5, 2) := by decide +kernel
theorem dL_law_1689 : decode cL_law 1689 = .ok (.if_icmp .eq 5, 3) := by decide +kernel
theorem dL_law_1692 : decode cL_law 1692 = .ok (.iconst 0, 1) := by decide +kernel
theorem dL_law_1693 : decode cL_law 1693 = .ok (.ireturn, 1) := by decide +kernel
theorem dL_law_1694 : decode cL_law 1694 = .ok (.iload 5, 2) := by decide +kernel
theorem dL_law_1696 : decode cL_law 1696 = .ok (.ifCond .ne 15, 3) := by decide +kernel
theorem dL_law_1699 : decode cL_law 1699 = .ok (.aload_n 3, 1) := by decide +kernel
theorem dL_law_1700 : decode cL_law 1700 = .ok (.iconst 0, 1) := by decide +kernel
theorem dL_law_1701 : decode cL_law 1701 = .ok (.laload, 1) := by decide +kernel
theorem dL_law_1702 : decode cL_law 1702 = .ok (.iload 6, 2) := by decide +kernel
theorem dL_law_1704 : decode cL_law 1704 = .ok (.i2l, 1) := by decide +kernel
theorem dL_law_1705 : decode cL_law 1705 = .ok (.lcmp, 1) := by decide +kernel
theorem dL_law_1706 : decode cL_law 1706 = .ok (.ifCond .eq 5, 3) := by decide +kernel
theorem dL_law_1709 : decode cL_law 1709 = .ok (.iconst 0, 1) := by decide +kernel
theorem dL_law_1710 : decode cL_law 1710 = .ok (.ireturn, 1) := by decide +kernel
theorem dL_law_1711 : decode cL_law 1711 = .ok (.goto 645, 3) := by decide +kernel
theorem dL_law_1714 : decode cL_law 1714 = .ok (.aload_n 1, 1) := by decide +kernel
theorem dL_law_1715 : decode cL_law 1715 = .ok (.aload_n 0, 1) := by decide +kernel
theorem dL_law_1716 : decode cL_law 1716 = .ok (.iload 4, 2) := by decide +kernel
theorem dL_law_1718 : decode cL_law 1718 = .ok (.iconst 1, 1) := by decide +kernel
theorem dL_law_1719 : decode cL_law 1719 = .ok (.iadd, 1) := by decide +kernel
theorem dL_law_1720 : decode cL_law 1720 = .ok (.iaload, 1) := by decide +kernel
theorem dL_law_1721 : decode cL_law 1721 = .ok (.aload_n 3, 1) := by decide +kernel
theorem dL_law_1722 : decode cL_law 1722 = .ok (.invokestatic 208, 3) := by decide +kernel
theorem dL_law_1725 : decode cL_law 1725 = .ok (.istore 5, 2) := by decide +kernel
theorem dL_law_1727 : decode cL_law 1727 = .ok (.aload_n 2, 1) := by decide +kernel
theorem dL_law_1728 : decode cL_law 1728 = .ok (.aload_n 0, 1) := by decide +kernel
theorem dL_law_1729 : decode cL_law 1729 = .ok (.iload 4, 2) := by decide +kernel
theorem dL_law_1731 : decode cL_law 1731 = .ok (.iconst 1, 1) := by decide +kernel
theorem dL_law_1732 : decode cL_law 1732 = .ok (.iadd, 1) := by decide +kernel
theorem dL_law_1733 : decode cL_law 1733 = .ok (.iaload, 1) := by decide +kernel
theorem dL_law_1734 : decode cL_law 1734 = .ok (.invokevirtual 210, 3) := by decide +kernel
theorem dL_law_1737 : decode cL_law 1737 = .ok (.istore 6, 2) := by decide +kernel
theorem dL_law_1739 : decode cL_law 1739 = .ok (.aload_n 2, 1) := by decide +kernel
theorem dL_law_1740 : decode cL_law 1740 = .ok (.invokevirtual 124, 3) := by decide +kernel
theorem dL_law_1743 : decode cL_law 1743 = .ok (.iload 5, 2) := by decide +kernel
theorem dL_law_1745 : decode cL_law 1745 = .ok (.if_icmp .eq 5, 3) := by decide +kernel
theorem dL_law_1748 : decode cL_law 1748 = .ok (.iconst 0, 1) := by decide +kernel
theorem dL_law_1749 : decode cL_law 1749 = .ok (.ireturn, 1) := by decide +kernel
theorem dL_law_1750 : decode cL_law 1750 = .ok (.iload 5, 2) := by decide +kernel
theorem dL_law_1752 : decode cL_law 1752 = .ok (.ifCond .ne 15, 3) := by decide +kernel
theorem dL_law_1755 : decode cL_law 1755 = .ok (.aload_n 3, 1) := by decide +kernel
theorem dL_law_1756 : decode cL_law 1756 = .ok (.iconst 0, 1) := by decide +kernel
theorem dL_law_1757 : decode cL_law 1757 = .ok (.laload, 1) := by decide +kernel
theorem dL_law_1758 : decode cL_law 1758 = .ok (.iload 6, 2) := by decide +kernel
theorem dL_law_1760 : decode cL_law 1760 = .ok (.i2l, 1) := by decide +kernel
theorem dL_law_1761 : decode cL_law 1761 = .ok (.lcmp, 1) := by decide +kernel
theorem dL_law_1762 : decode cL_law 1762 = .ok (.ifCond .eq 5, 3) := by decide +kernel
theorem dL_law_1765 : decode cL_law 1765 = .ok (.iconst 0, 1) := by decide +kernel
theorem dL_law_1766 : decode cL_law 1766 = .ok (.ireturn, 1) := by decide +kernel
theorem dL_law_1767 : decode cL_law 1767 = .ok (.goto 589, 3) := by decide +kernel
theorem dL_law_1770 : decode cL_law 1770 = .ok (.aload_n 1, 1) := by decide +kernel
theorem dL_law_1771 : decode cL_law 1771 = .ok (.aload_n 0, 1) := by decide +kernel
theorem dL_law_1772 : decode cL_law 1772 = .ok (.iload 4, 2) := by decide +kernel
theorem dL_law_1774 : decode cL_law 1774 = .ok (.iconst 1, 1) := by decide +kernel
theorem dL_law_1775 : decode cL_law 1775 = .ok (.iadd, 1) := by decide +kernel
theorem dL_law_1776 : decode cL_law 1776 = .ok (.iaload, 1) := by decide +kernel
theorem dL_law_1777 : decode cL_law 1777 = .ok (.aload_n 3, 1) := by decide +kernel
theorem dL_law_1778 : decode cL_law 1778 = .ok (.invokestatic 211, 3) := by decide +kernel
theorem dL_law_1781 : decode cL_law 1781 = .ok (.istore 5, 2) := by decide +kernel
theorem dL_law_1783 : decode cL_law 1783 = .ok (.aload_n 2, 1) := by decide +kernel
theorem dL_law_1784 : decode cL_law 1784 = .ok (.aload_n 0, 1) := by decide +kernel
theorem dL_law_1785 : decode cL_law 1785 = .ok (.iload 4, 2) := by decide +kernel
theorem dL_law_1787 : decode cL_law 1787 = .ok (.iconst 1, 1) := by decide +kernel
theorem dL_law_1788 : decode cL_law 1788 = .ok (.iadd, 1) := by decide +kernel
theorem dL_law_1789 : decode cL_law 1789 = .ok (.iaload, 1) := by decide +kernel
theorem dL_law_1790 : decode cL_law 1790 = .ok (.invokevirtual 213, 3) := by decide +kernel
theorem dL_law_1793 : decode cL_law 1793 = .ok (.istore 6, 2) := by decide +kernel
theorem dL_law_1795 : decode cL_law 1795 = .ok (.aload_n 2, 1) := by decide +kernel
theorem dL_law_1796 : decode cL_law 1796 = .ok (.invokevirtual 124, 3) := by decide +kernel
theorem dL_law_1799 : decode cL_law 1799 = .ok (.iload 5, 2) := by decide +kernel
theorem dL_law_1801 : decode cL_law 1801 = .ok (.if_icmp .eq 5, 3) := by decide +kernel
theorem dL_law_1804 : decode cL_law 1804 = .ok (.iconst 0, 1) := by decide +kernel
theorem dL_law_1805 : decode cL_law 1805 = .ok (.ireturn, 1) := by decide +kernel
theorem dL_law_1806 : decode cL_law 1806 = .ok (.iload 5, 2) := by decide +kernel
theorem dL_law_1808 : decode cL_law 1808 = .ok (.ifCond .ne 15, 3) := by decide +kernel
theorem dL_law_1811 : decode cL_law 1811 = .ok (.aload_n 3, 1) := by decide +kernel
theorem dL_law_1812 : decode cL_law 1812 = .ok (.iconst 0, 1) := by decide +kernel
theorem dL_law_1813 : decode cL_law 1813 = .ok (.laload, 1) := by decide +kernel
theorem dL_law_1814 : decode cL_law 1814 = .ok (.iload 6, 2) := by decide +kernel
theorem dL_law_1816 : decode cL_law 1816 = .ok (.i2l, 1) := by decide +kernel
theorem dL_law_1817 : decode cL_law 1817 = .ok (.lcmp, 1) := by decide +kernel
theorem dL_law_1818 : decode cL_law 1818 = .ok (.ifCond .eq 5, 3) := by decide +kernel
theorem dL_law_1821 : decode cL_law 1821 = .ok (.iconst 0, 1) := by decide +kernel
theorem dL_law_1822 : decode cL_law 1822 = .ok (.ireturn, 1) := by decide +kernel
theorem dL_law_1823 : decode cL_law 1823 = .ok (.goto 533, 3) := by decide +kernel
theorem dL_law_1826 : decode cL_law 1826 = .ok (.aload_n 1, 1) := by decide +kernel
theorem dL_law_1827 : decode cL_law 1827 = .ok (.aload_n 0, 1) := by decide +kernel
theorem dL_law_1828 : decode cL_law 1828 = .ok (.iload 4, 2) := by decide +kernel
theorem dL_law_1830 : decode cL_law 1830 = .ok (.iconst 1, 1) := by decide +kernel
theorem dL_law_1831 : decode cL_law 1831 = .ok (.iadd, 1) := by decide +kernel
theorem dL_law_1832 : decode cL_law 1832 = .ok (.iaload, 1) := by decide +kernel
theorem dL_law_1833 : decode cL_law 1833 = .ok (.aload_n 0, 1) := by decide +kernel
theorem dL_law_1834 : decode cL_law 1834 = .ok (.iload 4, 2) := by decide +kernel
theorem dL_law_1836 : decode cL_law 1836 = .ok (.iconst 2, 1) := by decide +kernel
theorem dL_law_1837 : decode cL_law 1837 = .ok (.iadd, 1) := by decide +kernel
theorem dL_law_1838 : decode cL_law 1838 = .ok (.iaload, 1) := by decide +kernel
theorem dL_law_1839 : decode cL_law 1839 = .ok (.aload_n 3, 1) := by decide +kernel
theorem dL_law_1840 : decode cL_law 1840 = .ok (.invokestatic 214, 3) := by decide +kernel
theorem dL_law_1843 : decode cL_law 1843 = .ok (.istore 5, 2) := by decide +kernel
theorem dL_law_1845 : decode cL_law 1845 = .ok (.aload_n 2, 1) := by decide +kernel
theorem dL_law_1846 : decode cL_law 1846 = .ok (.aload_n 0, 1) := by decide +kernel
theorem dL_law_1847 : decode cL_law 1847 = .ok (.iload 4, 2) := by decide +kernel
theorem dL_law_1849 : decode cL_law 1849 = .ok (.iconst 1, 1) := by decide +kernel
theorem dL_law_1850 : decode cL_law 1850 = .ok (.iadd, 1) := by decide +kernel
theorem dL_law_1851 : decode cL_law 1851 = .ok (.iaload, 1) := by decide +kernel
theorem dL_law_1852 : decode cL_law 1852 = .ok (.aload_n 0, 1) := by decide +kernel
theorem dL_law_1853 : decode cL_law 1853 = .ok (.iload 4, 2) := by decide +kernel
theorem dL_law_1855 : decode cL_law 1855 = .ok (.iconst 2, 1) := by decide +kernel
theorem dL_law_1856 : decode cL_law 1856 = .ok (.iadd, 1) := by decide +kernel
theorem dL_law_1857 : decode cL_law 1857 = .ok (.iaload, 1) := by decide +kernel
theorem dL_law_1858 : decode cL_law 1858 = .ok (.invokevirtual 216, 3) := by decide +kernel
theorem dL_law_1861 : decode cL_law 1861 = .ok (.istore 6, 2) := by decide +kernel
theorem dL_law_1863 : decode cL_law 1863 = .ok (.aload_n 2, 1) := by decide +kernel
theorem dL_law_1864 : decode cL_law 1864 = .ok (.invokevirtual 124, 3) := by decide +kernel
theorem dL_law_1867 : decode cL_law 1867 = .ok (.iload 5, 2) := by decide +kernel
theorem dL_law_1869 : decode cL_law 1869 = .ok (.if_icmp .eq 5, 3) := by decide +kernel
theorem dL_law_1872 : decode cL_law 1872 = .ok (.iconst 0, 1) := by decide +kernel
theorem dL_law_1873 : decode cL_law 1873 = .ok (.ireturn, 1) := by decide +kernel
theorem dL_law_1874 : decode cL_law 1874 = .ok (.iload 5, 2) := by decide +kernel
theorem dL_law_1876 : decode cL_law 1876 = .ok (.ifCond .ne 15, 3) := by decide +kernel
theorem dL_law_1879 : decode cL_law 1879 = .ok (.aload_n 3, 1) := by decide +kernel
theorem dL_law_1880 : decode cL_law 1880 = .ok (.iconst 0, 1) := by decide +kernel
theorem dL_law_1881 : decode cL_law 1881 = .ok (.laload, 1) := by decide +kernel
theorem dL_law_1882 : decode cL_law 1882 = .ok (.iload 6, 2) := by decide +kernel
theorem dL_law_1884 : decode cL_law 1884 = .ok (.i2l, 1) := by decide +kernel
theorem dL_law_1885 : decode cL_law 1885 = .ok (.lcmp, 1) := by decide +kernel
theorem dL_law_1886 : decode cL_law 1886 = .ok (.ifCond .eq 5, 3) := by decide +kernel
theorem dL_law_1889 : decode cL_law 1889 = .ok (.iconst 0, 1) := by decide +kernel
theorem dL_law_1890 : decode cL_law 1890 = .ok (.ireturn, 1) := by decide +kernel
theorem dL_law_1891 : decode cL_law 1891 = .ok (.goto 465, 3) := by decide +kernel
theorem dL_law_1894 : decode cL_law 1894 = .ok (.aload_n 1, 1) := by decide +kernel
theorem dL_law_1895 : decode cL_law 1895 = .ok (.aload_n 0, 1) := by decide +kernel
theorem dL_law_1896 : decode cL_law 1896 = .ok (.iload 4, 2) := by decide +kernel
theorem dL_law_1898 : decode cL_law 1898 = .ok (.iconst 1, 1) := by decide +kernel
theorem dL_law_1899 : decode cL_law 1899 = .ok (.iadd, 1) := by decide +kernel
theorem dL_law_1900 : decode cL_law 1900 = .ok (.iaload, 1) := by decide +kernel
theorem dL_law_1901 : decode cL_law 1901 = .ok (.aload_n 3, 1) := by decide +kernel
theorem dL_law_1902 : decode cL_law 1902 = .ok (.invokestatic 217, 3) := by decide +kernel
theorem dL_law_1905 : decode cL_law 1905 = .ok (.istore 5, 2) := by decide +kernel
theorem dL_law_1907 : decode cL_law 1907 = .ok (.aload_n 2, 1) := by decide +kernel
theorem dL_law_1908 : decode cL_law 1908 = .ok (.aload_n 0, 1) := by decide +kernel
theorem dL_law_1909 : decode cL_law 1909 = .ok (.iload 4, 2) := by decide +kernel
theorem dL_law_1911 : decode cL_law 1911 = .ok (.iconst 1, 1) := by decide +kernel
theorem dL_law_1912 : decode cL_law 1912 = .ok (.iadd, 1) := by decide +kernel
theorem dL_law_1913 : decode cL_law 1913 = .ok (.iaload, 1) := by decide +kernel
theorem dL_law_1914 : decode cL_law 1914 = .ok (.invokevirtual 219, 3) := by decide +kernel
theorem dL_law_1917 : decode cL_law 1917 = .ok (.istore 6, 2) := by decide +kernel
theorem dL_law_1919 : decode cL_law 1919 = .ok (.aload_n 2, 1) := by decide +kernel
theorem dL_law_1920 : decode cL_law 1920 = .ok (.invokevirtual 124, 3) := by decide +kernel
theorem dL_law_1923 : decode cL_law 1923 = .ok (.iload 5, 2) := by decide +kernel
theorem dL_law_1925 : decode cL_law 1925 = .ok (.if_icmp .eq 5, 3) := by decide +kernel
theorem dL_law_1928 : decode cL_law 1928 = .ok (.iconst 0, 1) := by decide +kernel
theorem dL_law_1929 : decode cL_law 1929 = .ok (.ireturn, 1) := by decide +kernel
theorem dL_law_1930 : decode cL_law 1930 = .ok (.iload 5, 2) := by decide +kernel
theorem dL_law_1932 : decode cL_law 1932 = .ok (.ifCond .ne 15, 3) := by decide +kernel
theorem dL_law_1935 : decode cL_law 1935 = .ok (.aload_n 3, 1) := by decide +kernel
theorem dL_law_1936 : decode cL_law 1936 = .ok (.iconst 0, 1) := by decide +kernel
theorem dL_law_1937 : decode cL_law 1937 = .ok (.laload, 1) := by decide +kernel
theorem dL_law_1938 : decode cL_law 1938 = .ok (.iload 6, 2) := by decide +kernel
theorem dL_law_1940 : decode cL_law 1940 = .ok (.i2l, 1) := by decide +kernel
theorem dL_law_1941 : decode cL_law 1941 = .ok (.lcmp, 1) := by decide +kernel
theorem dL_law_1942 : decode cL_law 1942 = .ok (.ifCond .eq 5, 3) := by decide +kernel
theorem dL_law_1945 : decode cL_law 1945 = .ok (.iconst 0, 1) := by decide +kernel
theorem dL_law_1946 : decode cL_law 1946 = .ok (.ireturn, 1) := by decide +kernel
theorem dL_law_1947 : decode cL_law 1947 = .ok (.goto 409, 3) := by decide +kernel
theorem dL_law_1950 : decode cL_law 1950 = .ok (.aload_n 1, 1) := by decide +kernel
theorem dL_law_1951 : decode cL_law 1951 = .ok (.aload_n 0, 1) := by decide +kernel
theorem dL_law_1952 : decode cL_law 1952 = .ok (.iload 4, 2) := by decide +kernel
theorem dL_law_1954 : decode cL_law 1954 = .ok (.iconst 1, 1) := by decide +kernel
theorem dL_law_1955 : decode cL_law 1955 = .ok (.iadd, 1) := by decide +kernel
theorem dL_law_1956 : decode cL_law 1956 = .ok (.iaload, 1) := by decide +kernel
theorem dL_law_1957 : decode cL_law 1957 = .ok (.aload_n 3, 1) := by decide +kernel
theorem dL_law_1958 : decode cL_law 1958 = .ok (.invokestatic 220, 3) := by decide +kernel
theorem dL_law_1961 : decode cL_law 1961 = .ok (.istore 5, 2) := by decide +kernel
theorem dL_law_1963 : decode cL_law 1963 = .ok (.aload_n 2, 1) := by decide +kernel
theorem dL_law_1964 : decode cL_law 1964 = .ok (.aload_n 0, 1) := by decide +kernel
theorem dL_law_1965 : decode cL_law 1965 = .ok (.iload 4, 2) := by decide +kernel
theorem dL_law_1967 : decode cL_law 1967 = .ok (.iconst 1, 1) := by decide +kernel
theorem dL_law_1968 : decode cL_law 1968 = .ok (.iadd, 1) := by decide +kernel
theorem dL_law_1969 : decode cL_law 1969 = .ok (.iaload, 1) := by decide +kernel
theorem dL_law_1970 : decode cL_law 1970 = .ok (.invokevirtual 222, 3) := by decide +kernel
theorem dL_law_1973 : decode cL_law 1973 = .ok (.istore 6, 2) := by decide +kernel
theorem dL_law_1975 : decode cL_law 1975 = .ok (.aload_n 2, 1) := by decide +kernel
theorem dL_law_1976 : decode cL_law 1976 = .ok (.invokevirtual 124, 3) := by decide +kernel
theorem dL_law_1979 : decode cL_law 1979 = .ok (.iload 5, 2) := by decide +kernel
theorem dL_law_1981 : decode cL_law 1981 = .ok (.if_icmp .eq 5, 3) := by decide +kernel
theorem dL_law_1984 : decode cL_law 1984 = .ok (.iconst 0, 1) := by decide +kernel
theorem dL_law_1985 : decode cL_law 1985 = .ok (.ireturn, 1) := by decide +kernel
theorem dL_law_1986 : decode cL_law 1986 = .ok (.iload 5, 2) := by decide +kernel
theorem dL_law_1988 : decode cL_law 1988 = .ok (.ifCond .ne 15, 3) := by decide +kernel
theorem dL_law_1991 : decode cL_law 1991 = .ok (.aload_n 3, 1) := by decide +kernel
theorem dL_law_1992 : decode cL_law 1992 = .ok (.iconst 0, 1) := by decide +kernel
theorem dL_law_1993 : decode cL_law 1993 = .ok (.laload, 1) := by decide +kernel
theorem dL_law_1994 : decode cL_law 1994 = .ok (.iload 6, 2) := by decide +kernel
theorem dL_law_1996 : decode cL_law 1996 = .ok (.i2l, 1) := by decide +kernel
theorem dL_law_1997 : decode cL_law 1997 = .ok (.lcmp, 1) := by decide +kernel
theorem dL_law_1998 : decode cL_law 1998 = .ok (.ifCond .eq 5, 3) := by decide +kernel
theorem dL_law_2001 : decode cL_law 2001 = .ok (.iconst 0, 1) := by decide +kernel
theorem dL_law_2002 : decode cL_law 2002 = .ok (.ireturn, 1) := by decide +kernel
theorem dL_law_2003 : decode cL_law 2003 = .ok (.goto 353, 3) := by decide +kernel
theorem dL_law_2006 : decode cL_law 2006 = .ok (.aload_n 1, 1) := by decide +kernel
theorem dL_law_2007 : decode cL_law 2007 = .ok (.invokevirtual 223, 3) := by decide +kernel
theorem dL_law_2010 : decode cL_law 2010 = .ok (.aload_n 2, 1) := by decide +kernel
theorem dL_law_2011 : decode cL_law 2011 = .ok (.invokevirtual 226, 3) := by decide +kernel
theorem dL_law_2014 : decode cL_law 2014 = .ok (.if_icmp .eq 342, 3) := by decide +kernel
theorem dL_law_2017 : decode cL_law 2017 = .ok (.iconst 0, 1) := by decide +kernel
theorem dL_law_2018 : decode cL_law 2018 = .ok (.ireturn, 1) := by decide +kernel
theorem dL_law_2019 : decode cL_law 2019 = .ok (.aload_n 1, 1) := by decide +kernel
theorem dL_law_2020 : decode cL_law 2020 = .ok (.invokevirtual 227, 3) := by decide +kernel
theorem dL_law_2023 : decode cL_law 2023 = .ok (.aload_n 2, 1) := by decide +kernel
theorem dL_law_2024 : decode cL_law 2024 = .ok (.invokevirtual 230, 3) := by decide +kernel
theorem dL_law_2027 : decode cL_law 2027 = .ok (.if_icmp .eq 329, 3) := by decide +kernel
theorem dL_law_2030 : decode cL_law 2030 = .ok (.iconst 0, 1) := by decide +kernel
theorem dL_law_2031 : decode cL_law 2031 = .ok (.ireturn, 1) := by decide +kernel
theorem dL_law_2032 : decode cL_law 2032 = .ok (.aload_n 1, 1) := by decide +kernel
theorem dL_law_2033 : decode cL_law 2033 = .ok (.aload_n 0, 1) := by decide +kernel
theorem dL_law_2034 : decode cL_law 2034 = .ok (.iload 4, 2) := by decide +kernel
theorem dL_law_2036 : decode cL_law 2036 = .ok (.iconst 1, 1) := by decide +kernel
theorem dL_law_2037 : decode cL_law 2037 = .ok (.iadd, 1) := by decide +kernel
theorem dL_law_2038 : decode cL_law 2038 = .ok (.iaload, 1) := by decide +kernel
theorem dL_law_2039 : decode cL_law 2039 = .ok (.aload_n 3, 1) := by decide +kernel
theorem dL_law_2040 : decode cL_law 2040 = .ok (.invokestatic 231, 3) := by decide +kernel
theorem dL_law_2043 : decode cL_law 2043 = .ok (.istore 5, 2) := by decide +kernel
theorem dL_law_2045 : decode cL_law 2045 = .ok (.aload_n 2, 1) := by decide +kernel
theorem dL_law_2046 : decode cL_law 2046 = .ok (.aload_n 0, 1) := by decide +kernel
theorem dL_law_2047 : decode cL_law 2047 = .ok (.iload 4, 2) := by decide +kernel
theorem dL_law_2049 : decode cL_law 2049 = .ok (.iconst 1, 1) := by decide +kernel
theorem dL_law_2050 : decode cL_law 2050 = .ok (.iadd, 1) := by decide +kernel
theorem dL_law_2051 : decode cL_law 2051 = .ok (.iaload, 1) := by decide +kernel
theorem dL_law_2052 : decode cL_law 2052 = .ok (.invokevirtual 233, 3) := by decide +kernel
theorem dL_law_2055 : decode cL_law 2055 = .ok (.istore 6, 2) := by decide +kernel
theorem dL_law_2057 : decode cL_law 2057 = .ok (.aload_n 2, 1) := by decide +kernel
theorem dL_law_2058 : decode cL_law 2058 = .ok (.invokevirtual 124, 3) := by decide +kernel
theorem dL_law_2061 : decode cL_law 2061 = .ok (.iload 5, 2) := by decide +kernel
theorem dL_law_2063 : decode cL_law 2063 = .ok (.if_icmp .eq 5, 3) := by decide +kernel
theorem dL_law_2066 : decode cL_law 2066 = .ok (.iconst 0, 1) := by decide +kernel
theorem dL_law_2067 : decode cL_law 2067 = .ok (.ireturn, 1) := by decide +kernel
theorem dL_law_2068 : decode cL_law 2068 = .ok (.iload 5, 2) := by decide +kernel
theorem dL_law_2070 : decode cL_law 2070 = .ok (.ifCond .ne 15, 3) := by decide +kernel
theorem dL_law_2073 : decode cL_law 2073 = .ok (.aload_n 3, 1) := by decide +kernel
theorem dL_law_2074 : decode cL_law 2074 = .ok (.iconst 0, 1) := by decide +kernel
theorem dL_law_2075 : decode cL_law 2075 = .ok (.laload, 1) := by decide +kernel
theorem dL_law_2076 : decode cL_law 2076 = .ok (.iload 6, 2) := by decide +kernel
theorem dL_law_2078 : decode cL_law 2078 = .ok (.i2l, 1) := by decide +kernel
theorem dL_law_2079 : decode cL_law 2079 = .ok (.lcmp, 1) := by decide +kernel
theorem dL_law_2080 : decode cL_law 2080 = .ok (.ifCond .eq 5, 3) := by decide +kernel
theorem dL_law_2083 : decode cL_law 2083 = .ok (.iconst 0, 1) := by decide +kernel
theorem dL_law_2084 : decode cL_law 2084 = .ok (.ireturn, 1) := by decide +kernel
theorem dL_law_2085 : decode cL_law 2085 = .ok (.goto 271, 3) := by decide +kernel
theorem dL_law_2088 : decode cL_law 2088 = .ok (.aload_n 1, 1) := by decide +kernel
theorem dL_law_2089 : decode cL_law 2089 = .ok (.aload_n 0, 1) := by decide +kernel
theorem dL_law_2090 : decode cL_law 2090 = .ok (.iload 4, 2) := by decide +kernel
theorem dL_law_2092 : decode cL_law 2092 = .ok (.iconst 1, 1) := by decide +kernel
theorem dL_law_2093 : decode cL_law 2093 = .ok (.iadd, 1) := by decide +kernel
theorem dL_law_2094 : decode cL_law 2094 = .ok (.iaload, 1) := by decide +kernel
theorem dL_law_2095 : decode cL_law 2095 = .ok (.aload_n 3, 1) := by decide +kernel
theorem dL_law_2096 : decode cL_law 2096 = .ok (.invokestatic 234, 3) := by decide +kernel
theorem dL_law_2099 : decode cL_law 2099 = .ok (.istore 5, 2) := by decide +kernel
theorem dL_law_2101 : decode cL_law 2101 = .ok (.aload_n 2, 1) := by decide +kernel
theorem dL_law_2102 : decode cL_law 2102 = .ok (.aload_n 0, 1) := by decide +kernel
theorem dL_law_2103 : decode cL_law 2103 = .ok (.iload 4, 2) := by decide +kernel
theorem dL_law_2105 : decode cL_law 2105 = .ok (.iconst 1, 1) := by decide +kernel
theorem dL_law_2106 : decode cL_law 2106 = .ok (.iadd, 1) := by decide +kernel
theorem dL_law_2107 : decode cL_law 2107 = .ok (.iaload, 1) := by decide +kernel
theorem dL_law_2108 : decode cL_law 2108 = .ok (.invokevirtual 236, 3) := by decide +kernel
theorem dL_law_2111 : decode cL_law 2111 = .ok (.istore 6, 2) := by decide +kernel
theorem dL_law_2113 : decode cL_law 2113 = .ok (.aload_n 2, 1) := by decide +kernel
theorem dL_law_2114 : decode cL_law 2114 = .ok (.invokevirtual 124, 3) := by decide +kernel
theorem dL_law_2117 : decode cL_law 2117 = .ok (.iload 5, 2) := by decide +kernel
theorem dL_law_2119 : decode cL_law 2119 = .ok (.if_icmp .eq 5, 3) := by decide +kernel
theorem dL_law_2122 : decode cL_law 2122 = .ok (.iconst 0, 1) := by decide +kernel
theorem dL_law_2123 : decode cL_law 2123 = .ok (.ireturn, 1) := by decide +kernel
theorem dL_law_2124 : decode cL_law 2124 = .ok (.iload 5, 2) := by decide +kernel
theorem dL_law_2126 : decode cL_law 2126 = .ok (.ifCond .ne 15, 3) := by decide +kernel
theorem dL_law_2129 : decode cL_law 2129 = .ok (.aload_n 3, 1) := by decide +kernel
theorem dL_law_2130 : decode cL_law 2130 = .ok (.iconst 0, 1) := by decide +kernel
theorem dL_law_2131 : decode cL_law 2131 = .ok (.laload, 1) := by decide +kernel
theorem dL_law_2132 : decode cL_law 2132 = .ok (.iload 6, 2) := by decide +kernel
theorem dL_law_2134 : decode cL_law 2134 = .ok (.i2l, 1) := by decide +kernel
theorem dL_law_2135 : decode cL_law 2135 = .ok (.lcmp, 1) := by decide +kernel
theorem dL_law_2136 : decode cL_law 2136 = .ok (.ifCond .eq 5, 3) := by decide +kernel
theorem dL_law_2139 : decode cL_law 2139 = .ok (.iconst 0, 1) := by decide +kernel
theorem dL_law_2140 : decode cL_law 2140 = .ok (.ireturn, 1) := by decide +kernel
theorem dL_law_2141 : decode cL_law 2141 = .ok (.goto 215, 3) := by decide +kernel
theorem dL_law_2144 : decode cL_law 2144 = .ok (.aload_n 1, 1) := by decide +kernel
theorem dL_law_2145 : decode cL_law 2145 = .ok (.aload_n 0, 1) := by decide +kernel
theorem dL_law_2146 : decode cL_law 2146 = .ok (.iload 4, 2) := by decide +kernel
theorem dL_law_2148 : decode cL_law 2148 = .ok (.iconst 1, 1) := by decide +kernel
theorem dL_law_2149 : decode cL_law 2149 = .ok (.iadd, 1) := by decide +kernel
theorem dL_law_2150 : decode cL_law 2150 = .ok (.iaload, 1) := by decide +kernel
theorem dL_law_2151 : decode cL_law 2151 = .ok (.aload_n 0, 1) := by decide +kernel
theorem dL_law_2152 : decode cL_law 2152 = .ok (.iload 4, 2) := by decide +kernel
theorem dL_law_2154 : decode cL_law 2154 = .ok (.iconst 2, 1) := by decide +kernel
theorem dL_law_2155 : decode cL_law 2155 = .ok (.iadd, 1) := by decide +kernel
theorem dL_law_2156 : decode cL_law 2156 = .ok (.iaload, 1) := by decide +kernel
theorem dL_law_2157 : decode cL_law 2157 = .ok (.aload_n 3, 1) := by decide +kernel
theorem dL_law_2158 : decode cL_law 2158 = .ok (.invokestatic 237, 3) := by decide +kernel
theorem dL_law_2161 : decode cL_law 2161 = .ok (.istore 5, 2) := by decide +kernel
theorem dL_law_2163 : decode cL_law 2163 = .ok (.aload_n 2, 1) := by decide +kernel
theorem dL_law_2164 : decode cL_law 2164 = .ok (.aload_n 0, 1) := by decide +kernel
theorem dL_law_2165 : decode cL_law 2165 = .ok (.iload 4, 2) := by decide +kernel
theorem dL_law_2167 : decode cL_law 2167 = .ok (.iconst 1, 1) := by decide +kernel
theorem dL_law_2168 : decode cL_law 2168 = .ok (.iadd, 1) := by decide +kernel
theorem dL_law_2169 : decode cL_law 2169 = .ok (.iaload, 1) := by decide +kernel
theorem dL_law_2170 : decode cL_law 2170 = .ok (.aload_n 0, 1) := by decide +kernel
theorem dL_law_2171 : decode cL_law 2171 = .ok (.iload 4, 2) := by decide +kernel
theorem dL_law_2173 : decode cL_law 2173 = .ok (.iconst 2, 1) := by decide +kernel
theorem dL_law_2174 : decode cL_law 2174 = .ok (.iadd, 1) := by decide +kernel
theorem dL_law_2175 : decode cL_law 2175 = .ok (.iaload, 1) := by decide +kernel
theorem dL_law_2176 : decode cL_law 2176 = .ok (.invokevirtual 239, 3) := by decide +kernel
theorem dL_law_2179 : decode cL_law 2179 = .ok (.istore 6, 2) := by decide +kernel
theorem dL_law_2181 : decode cL_law 2181 = .ok (.aload_n 2, 1) := by decide +kernel
theorem dL_law_2182 : decode cL_law 2182 = .ok (.invokevirtual 124, 3) := by decide +kernel
theorem dL_law_2185 : decode cL_law 2185 = .ok (.iload 5, 2) := by decide +kernel
theorem dL_law_2187 : decode cL_law 2187 = .ok (.if_icmp .eq 5, 3) := by decide +kernel
theorem dL_law_2190 : decode cL_law 2190 = .ok (.iconst 0, 1) := by decide +kernel
theorem dL_law_2191 : decode cL_law 2191 = .ok (.ireturn, 1) := by decide +kernel
theorem dL_law_2192 : decode cL_law 2192 = .ok (.iload 5, 2) := by decide +kernel
theorem dL_law_2194 : decode cL_law 2194 = .ok (.ifCond .ne 15, 3) := by decide +kernel
theorem dL_law_2197 : decode cL_law 2197 = .ok (.aload_n 3, 1) := by decide +kernel
theorem dL_law_2198 : decode cL_law 2198 = .ok (.iconst 0, 1) := by decide +kernel
theorem dL_law_2199 : decode cL_law 2199 = .ok (.laload, 1) := by decide +kernel
theorem dL_law_2200 : decode cL_law 2200 = .ok (.iload 6, 2) := by decide +kernel
theorem dL_law_2202 : decode cL_law 2202 = .ok (.i2l, 1) := by decide +kernel
theorem dL_law_2203 : decode cL_law 2203 = .ok (.lcmp, 1) := by decide +kernel
theorem dL_law_2204 : decode cL_law 2204 = .ok (.ifCond .eq 5, 3) := by decide +kernel
theorem dL_law_2207 : decode cL_law 2207 = .ok (.iconst 0, 1) := by decide +kernel
theorem dL_law_2208 : decode cL_law 2208 = .ok (.ireturn, 1) := by decide +kernel
theorem dL_law_2209 : decode cL_law 2209 = .ok (.goto 147, 3) := by decide +kernel
theorem dL_law_2212 : decode cL_law 2212 = .ok (.aload_n 1, 1) := by decide +kernel
theorem dL_law_2213 : decode cL_law 2213 = .ok (.aload_n 0, 1) := by decide +kernel
theorem dL_law_2214 : decode cL_law 2214 = .ok (.iload 4, 2) := by decide +kernel
theorem dL_law_2216 : decode cL_law 2216 = .ok (.iconst 1, 1) := by decide +kernel
theorem dL_law_2217 : decode cL_law 2217 = .ok (.iadd, 1) := by decide +kernel
theorem dL_law_2218 : decode cL_law 2218 = .ok (.iaload, 1) := by decide +kernel
theorem dL_law_2219 : decode cL_law 2219 = .ok (.aload_n 0, 1) := by decide +kernel
theorem dL_law_2220 : decode cL_law 2220 = .ok (.iload 4, 2) := by decide +kernel
theorem dL_law_2222 : decode cL_law 2222 = .ok (.iconst 2, 1) := by decide +kernel
theorem dL_law_2223 : decode cL_law 2223 = .ok (.iadd, 1) := by decide +kernel
theorem dL_law_2224 : decode cL_law 2224 = .ok (.iaload, 1) := by decide +kernel
theorem dL_law_2225 : decode cL_law 2225 = .ok (.aload_n 3, 1) := by decide +kernel
theorem dL_law_2226 : decode cL_law 2226 = .ok (.invokestatic 240, 3) := by decide +kernel
theorem dL_law_2229 : decode cL_law 2229 = .ok (.istore 5, 2) := by decide +kernel
theorem dL_law_2231 : decode cL_law 2231 = .ok (.aload_n 2, 1) := by decide +kernel
theorem dL_law_2232 : decode cL_law 2232 = .ok (.aload_n 0, 1) := by decide +kernel
theorem dL_law_2233 : decode cL_law 2233 = .ok (.iload 4, 2) := by decide +kernel
theorem dL_law_2235 : decode cL_law 2235 = .ok (.iconst 1, 1) := by decide +kernel
theorem dL_law_2236 : decode cL_law 2236 = .ok (.iadd, 1) := by decide +kernel
theorem dL_law_2237 : decode cL_law 2237 = .ok (.iaload, 1) := by decide +kernel
theorem dL_law_2238 : decode cL_law 2238 = .ok (.aload_n 0, 1) := by decide +kernel
theorem dL_law_2239 : decode cL_law 2239 = .ok (.iload 4, 2) := by decide +kernel
theorem dL_law_2241 : decode cL_law 2241 = .ok (.iconst 2, 1) := by decide +kernel
theorem dL_law_2242 : decode cL_law 2242 = .ok (.iadd, 1) := by decide +kernel
theorem dL_law_2243 : decode cL_law 2243 = .ok (.iaload, 1) := by decide +kernel
theorem dL_law_2244 : decode cL_law 2244 = .ok (.invokevirtual 242, 3) := by decide +kernel
theorem dL_law_2247 : decode cL_law 2247 = .ok (.istore 6, 2) := by decide +kernel
theorem dL_law_2249 : decode cL_law 2249 = .ok (.aload_n 2, 1) := by decide +kernel
theorem dL_law_2250 : decode cL_law 2250 = .ok (.invokevirtual 124, 3) := by decide +kernel
theorem dL_law_2253 : decode cL_law 2253 = .ok (.iload 5, 2) := by decide +kernel
theorem dL_law_2255 : decode cL_law 2255 = .ok (.if_icmp .eq 5, 3) := by decide +kernel
theorem dL_law_2258 : decode cL_law 2258 = .ok (.iconst 0, 1) := by decide +kernel
theorem dL_law_2259 : decode cL_law 2259 = .ok (.ireturn, 1) := by decide +kernel
theorem dL_law_2260 : decode cL_law 2260 = .ok (.iload 5, 2) := by decide +kernel
theorem dL_law_2262 : decode cL_law 2262 = .ok (.ifCond .ne 22, 3) := by decide +kernel
theorem dL_law_2265 : decode cL_law 2265 = .ok (.aload_n 3, 1) := by decide +kernel
theorem dL_law_2266 : decode cL_law 2266 = .ok (.iconst 0, 1) := by decide +kernel
theorem dL_law_2267 : decode cL_law 2267 = .ok (.laload, 1) := by decide +kernel
theorem dL_law_2268 : decode cL_law 2268 = .ok (.iload 6, 2) := by decide +kernel
theorem dL_law_2270 : decode cL_law 2270 = .ok (.ifCond .eq 7, 3) := by decide +kernel
theorem dL_law_2273 : decode cL_law 2273 = .ok (.lconst 1, 1) := by decide +kernel
theorem dL_law_2274 : decode cL_law 2274 = .ok (.goto 4, 3) := by decide +kernel
theorem dL_law_2277 : decode cL_law 2277 = .ok (.lconst 0, 1) := by decide +kernel
theorem dL_law_2278 : decode cL_law 2278 = .ok (.lcmp, 1) := by decide +kernel
theorem dL_law_2279 : decode cL_law 2279 = .ok (.ifCond .eq 5, 3) := by decide +kernel
theorem dL_law_2282 : decode cL_law 2282 = .ok (.iconst 0, 1) := by decide +kernel
theorem dL_law_2283 : decode cL_law 2283 = .ok (.ireturn, 1) := by decide +kernel
theorem dL_law_2284 : decode cL_law 2284 = .ok (.goto 72, 3) := by decide +kernel
theorem dL_law_2287 : decode cL_law 2287 = .ok (.aload_n 1, 1) := by decide +kernel
theorem dL_law_2288 : decode cL_law 2288 = .ok (.aload_n 0, 1) := by decide +kernel
theorem dL_law_2289 : decode cL_law 2289 = .ok (.iload 4, 2) := by decide +kernel
theorem dL_law_2291 : decode cL_law 2291 = .ok (.iconst 1, 1) := by decide +kernel
theorem dL_law_2292 : decode cL_law 2292 = .ok (.iadd, 1) := by decide +kernel
theorem dL_law_2293 : decode cL_law 2293 = .ok (.iaload, 1) := by decide +kernel
theorem dL_law_2294 : decode cL_law 2294 = .ok (.aload_n 3, 1) := by decide +kernel
theorem dL_law_2295 : decode cL_law 2295 = .ok (.invokestatic 243, 3) := by decide +kernel
theorem dL_law_2298 : decode cL_law 2298 = .ok (.istore 5, 2) := by decide +kernel
theorem dL_law_2300 : decode cL_law 2300 = .ok (.aload_n 2, 1) := by decide +kernel
theorem dL_law_2301 : decode cL_law 2301 = .ok (.aload_n 0, 1) := by decide +kernel
theorem dL_law_2302 : decode cL_law 2302 = .ok (.iload 4, 2) := by decide +kernel
theorem dL_law_2304 : decode cL_law 2304 = .ok (.iconst 1, 1) := by decide +kernel
theorem dL_law_2305 : decode cL_law 2305 = .ok (.iadd, 1) := by decide +kernel
theorem dL_law_2306 : decode cL_law 2306 = .ok (.iaload, 1) := by decide +kernel
theorem dL_law_2307 : decode cL_law 2307 = .ok (.invokevirtual 245, 3) := by decide +kernel
theorem dL_law_2310 : decode cL_law 2310 = .ok (.istore 6, 2) := by decide +kernel
theorem dL_law_2312 : decode cL_law 2312 = .ok (.aload_n 2, 1) := by decide +kernel
theorem dL_law_2313 : decode cL_law 2313 = .ok (.invokevirtual 124, 3) := by decide +kernel
theorem dL_law_2316 : decode cL_law 2316 = .ok (.iload 5, 2) := by decide +kernel
theorem dL_law_2318 : decode cL_law 2318 = .ok (.if_icmp .eq 5, 3) := by decide +kernel
theorem dL_law_2321 : decode cL_law 2321 = .ok (.iconst 0, 1) := by decide +kernel
theorem dL_law_2322 : decode cL_law 2322 = .ok (.ireturn, 1) := by decide +kernel
theorem dL_law_2323 : decode cL_law 2323 = .ok (.iload 5, 2) := by decide +kernel
theorem dL_law_2325 : decode cL_law 2325 = .ok (.ifCond .ne 15, 3) := by decide +kernel
theorem dL_law_2328 : decode cL_law 2328 = .ok (.aload_n 3, 1) := by decide +kernel
theorem dL_law_2329 : decode cL_law 2329 = .ok (.iconst 0, 1) := by decide +kernel
theorem dL_law_2330 : decode cL_law 2330 = .ok (.laload, 1) := by decide +kernel
theorem dL_law_2331 : decode cL_law 2331 = .ok (.iload 6, 2) := by decide +kernel
theorem dL_law_2333 : decode cL_law 2333 = .ok (.i2l, 1) := by decide +kernel
theorem dL_law_2334 : decode cL_law 2334 = .ok (.lcmp, 1) := by decide +kernel
theorem dL_law_2335 : decode cL_law 2335 = .ok (.ifCond .eq 5, 3) := by decide +kernel
theorem dL_law_2338 : decode cL_law 2338 = .ok (.iconst 0, 1) := by decide +kernel
theorem dL_law_2339 : decode cL_law 2339 = .ok (.ireturn, 1) := by decide +kernel
theorem dL_law_2340 : decode cL_law 2340 = .ok (.goto 16, 3) := by decide +kernel
theorem dL_law_2343 : decode cL_law 2343 = .ok (.aload_n 1, 1) := by decide +kernel
theorem dL_law_2344 : decode cL_law 2344 = .ok (.invokevirtual 246, 3) := by decide +kernel
theorem dL_law_2347 : decode cL_law 2347 = .ok (.aload_n 2, 1) := by decide +kernel
theorem dL_law_2348 : decode cL_law 2348 = .ok (.invokevirtual 249, 3) := by decide +kernel
theorem dL_law_2351 : decode cL_law 2351 = .ok (.if_icmp .eq 5, 3) := by decide +kernel
theorem dL_law_2354 : decode cL_law 2354 = .ok (.iconst 0, 1) := by decide +kernel
theorem dL_law_2355 : decode cL_law 2355 = .ok (.ireturn, 1) := by decide +kernel
theorem dL_law_2356 : decode cL_law 2356 = .ok (.iinc 4 7, 3) := by decide +kernel
theorem dL_law_2359 : decode cL_law 2359 = .ok (.goto (-2336), 3) := by decide +kernel
theorem dL_law_2362 : decode cL_law 2362 = .ok (.iconst 1, 1) := by decide +kernel
theorem dL_law_2363 : decode cL_law 2363 = .ok (.ireturn, 1) := by decide +kernel
end
section
/-! THE WORLD: 175 cells one behind another from the address b on: the class's (0 to 168), the reference's (169 to 173), the law's row (174). A cell's kind and length are written below; what changes is M: cell, place -> int. -/
abbrev zM : Type := Nat → Nat → Int32
abbrev zG : Type := (Nat → ClassId) × (Nat → Nat → Nat) × (Nat → ClassId)
def z_kdL : List Nat := [6, 5, 11, 12, 3, 8, 8, 8, 8, 13, 0, 4, 8, 0, 4, 8, 0, 4, 8, 0, 4, 8, 0, 4, 8, 0, 4, 8, 2, 4, 8, 2, 4, 8, 2, 4, 8, 2, 4, 8, 2, 4, 8, 2, 4, 8, 2, 4, 8, 2, 4, 8, 2, 4, 8, 2, 4, 8, 2, 4, 8, 2, 4, 8, 1, 8, 8, 9, 9, 1, 8, 8, 9, 9, 1, 8, 8, 9, 9, 1, 8, 8, 9, 9, 5, 11, 12, 3, 8, 8, 8, 8, 13, 0, 4, 8, 0, 4, 8, 0, 4, 8, 0, 4, 8, 0, 4, 8, 0, 4, 8, 2, 4, 8, 2, 4, 8, 2, 4, 8, 2, 4, 8, 2, 4, 8, 2, 4, 8, 2, 4, 8, 2, 4, 8, 2, 4, 8, 2, 4, 8, 2, 4, 8, 2, 4, 8, 1, 8, 8, 9, 9, 1, 8, 8, 9, 9, 1, 8, 8, 9, 9, 1, 8, 8, 9, 9, 8, 8, 7, 8, 8, 8, 8, 10]
def z_lnL : List Nat := [0, 0, 6, 12, 0, 128, 128, 128, 128, 4, 0, 0, 128, 0, 0, 128, 0, 0, 128, 0, 0, 128, 0, 0, 128, 0, 0, 128, 0, 0, 128, 0, 0, 128, 0, 0, 128, 0, 0, 128, 0, 0, 128, 0, 0, 128, 0, 0, 128, 0, 0, 128, 0, 0, 128, 0, 0, 128, 0, 0, 128, 0, 0, 128, 0, 66, 66, 66, 32, 0, 66, 66, 66, 32, 0, 66, 66, 66, 32, 0, 66, 66, 66, 32, 0, 6, 12, 0, 128, 128, 128, 128, 4, 0, 0, 128, 0, 0, 128, 0, 0, 128, 0, 0, 128, 0, 0, 128, 0, 0, 128, 0, 0, 128, 0, 0, 128, 0, 0, 128, 0, 0, 128, 0, 0, 128, 0, 0, 128, 0, 0, 128, 0, 0, 128, 0, 0, 128, 0, 0, 128, 0, 0, 128, 0, 0, 128, 0, 66, 66, 66, 32, 0, 66, 66, 66, 32, 0, 66, 66, 66, 32, 0, 66, 66, 66, 32, 16, 128, 0, 3397, 3397, 128, 16, 1]
def z_kd (k : Nat) : Nat := z_kdL.getD k 99
def z_ln (k : Nat) : Nat := z_lnL.getD k 0
/-- what the references of a row of references lead to -/
def z_rf (c k j : Nat) : Nat := match c with
  | 11 => k + 8 + 3 * j
  | 12 => k + 25 + 3 * j
  | _ => k + 55 + 5 * j
/-- an object's fields, in the order of its slots -/
def z_fl (c b k : Nat) (m : Nat → Int32) : List Value := match c with
  | 0 => [.ref (b + (k + 1)), .int (m 1), .int (m 2)]
  | 1 => [.int (m 0), .ref (b + (k + 1)), .ref (b + (k + 2)), .ref (b + (k + 3)), .int (m 4), .ref (b + (k + 4))]
  | 2 => [.ref (b + (k + 1)), .int (m 1), .int (m 2), .int (m 3), .int (m 4), .int (m 5)]
  | 3 => [.ref (b + (k + 1)), .ref (b + (k + 2)), .ref (b + (k + 3)), .ref (b + (k + 4))]
  | 4 => [.ref (b + (k + 1))]
  | 5 => [.ref (b + (k + 1)), .ref (b + (k + 2)), .ref (b + (k + 3)), .ref (b + (k + 8)), .int (m 4), .int (m 5), .int (m 6)]
  | 6 => [.ref (b + (k + 1)), .ref (b + (k + 84)), .ref (b + (k + 167)), .ref (b + (k + 168))]
  | _ => [.ref (b + (k + 1)), .ref (b + (k + 2)), .ref (b + (k + 3)), .ref (b + (k + 4)), .int (m 4)]
/-- a row's contents, by its kind -/
def z_ar (c b n k : Nat) (m : Nat → Int32) : vp_A := match c with
  | 8 => (n, .inl m)
  | 9 => (n, .inl m)
  | 10 => (n, .inr (.inl (fun j => (m j).toInt64)))
  | _ => (n, .inr (.inr (.inr (.inr (fun j => some (b + z_rf c k j))))))
def z_ent (G : zG) (b : Nat) (M : zM) (k : Nat) : va_E := if z_kd k < 8 then .inr (z_kd k, z_fl (z_kd k) b k (M k)) else .inl (G.2.2 (z_kd k), z_ar (z_kd k) b (z_ln k) k (M k))
def z_W (G : zG) (b : Nat) (M : zM) (H : Heap) : Prop := ∀ k : Nat, k < 175 → va_at (G.1, G.2.1) vwCl (b + k, z_ent G b M k) H
def z_wl (G : zG) (b : Nat) (M : zM) : va_W := (List.range 175).map (fun k => (b + k, z_ent G b M k))
/-- one place of one cell written -/
def z_st (M : zM) (k j : Nat) (v : Int32) : zM := fun a => if a = k then upd (M k) j v else M a
theorem z_all {a : Nat} {P : Nat → Bool} (h : (List.range 175).all (fun k => !(z_kd k == a) || P k) = true) (ha : (a == 99) = false) {k : Nat} (hk : z_kd k = a) : k < 175 ∧ P k = true := by
  have hk2 : k < 175 := by
    rcases Nat.lt_or_ge k 175 with q | q
    · exact q
    · have h9 : z_kd k = 99 := by
        unfold z_kd
        rw [List.getD_eq_getElem?_getD, List.getElem?_eq_none (by exact q)]
        rfl
      rw [← hk, h9] at ha
      exact absurd ha (by decide)
  refine ⟨hk2, ?_⟩
  have h1 := List.all_eq_true.mp h k (List.mem_range.mpr hk2)
  rw [hk] at h1
  simpa using h1
theorem z_wl_get {G : zG} {b : Nat} {M : zM} {k : Nat} (hk : k < 175) : (z_wl G b M)[k]? = some (b + k, z_ent G b M k) := by
  unfold z_wl
  rw [List.getElem?_map, List.getElem?_range hk]
  rfl
theorem z_wl_at {G : zG} {b : Nat} {M : zM} {k : Nat} {q : Nat × va_E} (h : (z_wl G b M)[k]? = some q) : k < 175 ∧ q = (b + k, z_ent G b M k) := by
  have hl : k < (z_wl G b M).length := (List.getElem?_eq_some_iff.mp h).1
  have hk : k < 175 := by simpa [z_wl] using hl
  rw [z_wl_get hk] at h
  exact ⟨hk, (Option.some.inj h).symm⟩
theorem z_WP {G : zG} {b : Nat} {M : zM} {H : Heap} (h : z_W G b M H) : va_P (G.1, G.2.1) vwCl (z_wl G b M) H := fun k q hk => by
  obtain ⟨h1, h2⟩ := z_wl_at hk
  rw [h2]
  exact h k h1
theorem z_WD {G : zG} {b : Nat} {M : zM} : va_D (fun q => b ≤ q) (z_wl G b M) := by
  refine ⟨fun i j p q hi hj hpq => ?_, fun k q hk => ?_⟩
  · have h1 := (z_wl_at hi).2
    have h2 := (z_wl_at hj).2
    rw [h1, h2] at hpq
    exact Nat.add_left_cancel hpq
  · rw [(z_wl_at hk).2]
    exact Nat.le_add_right b k
/-- a world with one cell written anew -/
theorem z_Wset {G : zG} {b : Nat} {M M1 : zM} {H1 : Heap} {k : Nat} {e : va_E} (hk : k < 175) (h : va_P (G.1, G.2.1) vwCl ((z_wl G b M).set k (b + k, e)) H1) (he : e = z_ent G b M1 k) (hM : ∀ j, j ≠ k → M1 j = M j) : z_W G b M1 H1 := by
  intro j hj
  by_cases hjk : j = k
  · subst hjk
    rw [← he]
    refine h j _ ?_
    rw [List.getElem?_set_self]
    rw [(by simp [z_wl] : (z_wl G b M).length = 175)]
    exact hj
  · have h1 : z_ent G b M1 j = z_ent G b M j := by
      unfold z_ent
      rw [hM j hjk]
    rw [h1]
    refine h j _ ?_
    rw [List.getElem?_set_ne (Ne.symm hjk)]
    exact z_wl_get hj
theorem z_W.kept {G : zG} {b : Nat} {M : zM} {H H1 : Heap} (h : z_W G b M H) (hq : ∀ q : Nat, q < H.size → H1[q]? = H[q]?) : z_W G b M H1 := fun k hk => (h k hk).kept (hq _ (h k hk).lt)
def z_tys (G : zG) : List (ClassId × FieldType) := [(G.2.2 8, .int), (G.2.2 9, .boolean), (G.2.2 10, .long), (G.2.2 11, .object RX0), (G.2.2 12, .object RX2), (G.2.2 13, .object RX1)]
def z_K (G : zG) (U : State) : Prop := va_K (G.1, G.2.1) vwCl (z_tys G) U
/-- the tables' words that a call carries on -/
def z_ok (w : Cond) : Bool := match w with
  | .fieldLinkNest _ _ _ _ _ _ => true
  | .methodLinkNest _ _ _ _ => true
  | .castable _ _ => true
  | .declares _ => true
  | .arrayOver (.object _) => true
  | w => goodWord w
def z_TB : List Cond := lw_tbl.filter z_ok

def z_TW (U : State) : Prop := ∀ w ∈ z_TB, w.before #[] U = true
theorem z_ok_warm {w : Cond} {s U : State} (hW : s.WarmedH U.vm) (hok : z_ok w = true) (hb : w.before #[] s = true) : w.before #[] U = true := by
  cases w <;> first
    | exact va_Nw.warmF hW hb
    | exact va_Nw.warmM hW hb
    | exact va_Nw.warmC hW hb
    | exact va_Nw.warmD hW hb
    | exact word_at hW (good_of_word hok) hb
    | (rename_i ty; cases ty <;> first | exact va_AO.moved hW.alike hb | exact absurd hok (by decide) | exact absurd hok (fun h => Bool.noConfusion h))
theorem z_TW.warm {s U : State} (hW : s.WarmedH U.vm) (h : z_TW s) : z_TW U := fun w hw => z_ok_warm hW (List.mem_filter.mp hw).2 (h w hw)
theorem z_TW.same {s U : State} (hv : s.vm = U.vm) (h : z_TW s) : z_TW U := h.warm (by rw [← hv]; exact State.WarmedH.refl s)
theorem z_ok_use {w : Cond} {s : State} {args : Array Value} (hok : z_ok w = true) (hb : w.before #[] s = true) : w.before args s = true := by
  cases w <;> first
    | exact vx_ot_at (State.WarmedH.refl s) rfl rfl hb
    | exact vx_ot_at (State.WarmedH.refl s) rfl ((Bool.or_eq_true _ _).mpr (Or.inr hok)) hb
    | exact hb
theorem z_TW.use {s : State} (h : z_TW s) {w : Cond} (hw : w ∈ z_TB) {args : Array Value} : w.before args s = true := z_ok_use (List.mem_filter.mp hw).2 (h w hw)
theorem z_in {w : Cond} (k : Nat) (h : lw_tbl[k]? = some w) (hok : z_ok w = true) : w ∈ z_TB := List.mem_filter.mpr ⟨List.mem_of_getElem? h, hok⟩
def z_strs : List (String × Nat × String) := [("Cowmeadow", 73, "no block is free"), ("Cowmeadow", 97, "the file has not so many indexes"), ("Cowmeadow", 100, "a file has not so many indexes"), ("Cowmeadow", 116, "there are 12 snapshots"), ("Cowmeadow", 144, "it has not so many snapshots"), ("Cowmeadow", 151, "it is the origin of a dataset"), ("Cowmeadow", 157, "the snapshot belongs to another dataset"), ("Cowmeadow", 163, "a snapshot behind it is the origin of a dataset"), ("Cowmeadow", 179, "there are 6 datasets"), ("Cowmeadow", 191, "it has no origin"), ("Cowmeadow", 200, "it has snapshots"), ("Cowmeadow", 202, "it is the only dataset"), ("Cowmeadow", 229, "the block is not allocated"), ("Cowmeadow", 269, "no such dataset"), ("Cowmeadow", 271, "no such snapshot"), ("Cowmeadow", 273, "no such file"), ("Cowmeadow", 275, "no such index"), ("Cowmeadow", 277, "no such block"), ("Cowmeadow", 279, "no such region"), ("Cowmeadow", 285, "no such entry")]
/-- what the throws need of the machine: two statics of Throwable's that no cell of ours holds, and the texts -/
def z_ncs : List (String × String) := [("java/lang/IllegalStateException", "java/lang/IndexOutOfBoundsException"), ("java/lang/IllegalArgumentException", "java/lang/IndexOutOfBoundsException"), ("java/lang/IllegalStateException", "java/lang/IllegalArgumentException")]
def z_X (b : Nat) (U : State) : Prop := (∀ q ∈ z_ncs, va_Nc q.1 q.2 U) ∧ vx_Zq Bundle.tN "UNASSIGNED_STACK" Bundle.steD (fun q => b ≤ q) U U.heap ∧ vx_Zq Bundle.tN "SUPPRESSED_SENTINEL" Bundle.listD (fun q => b ≤ q) U U.heap ∧ ∀ q ∈ z_strs, ∃ a : Nat, vk_R q.1 q.2.1 q.2.2 a U
/-- the world, and all that goes with it from call to call -/
def z_B (G : zG) (b : Nat) (M : zM) (U : State) : Prop := z_W G b M U.heap ∧ z_K G U ∧ z_TW U ∧ z_X b U
theorem z_X.kept {b : Nat} {s U : State} {H : Heap} {locs : List Loc} (hX : z_X b s) (hS : va_S (fun q => b ≤ q) s.heap H locs) (hU : U.heap = H) (hW : s.WarmedH U.vm) : z_X b U := by
  obtain ⟨h0, h1, h2, h3⟩ := hX
  refine ⟨fun q hq => (h0 q hq).moved hW.alike, ?_, ?_, fun q hq => ?_⟩
  · rw [hU]
    exact vx_Zq.moved hW.alike (h1.kept (fun a l1 l2 => hS.2.1 a l1 l2))
  · rw [hU]
    exact vx_Zq.moved hW.alike (h2.kept (fun a l1 l2 => hS.2.1 a l1 l2))
  · obtain ⟨a, ha⟩ := h3 q hq
    exact ⟨a, vk_R.warm hW ha⟩
theorem z_pre {G : zG} {b : Nat} {M : zM} {s U : State} {H : Heap} {locs : List Loc} (hT : z_TW s) (hK : z_K G s) (hX : z_X b s) (hW : z_W G b M H) (hS : va_S (fun q => b ≤ q) s.heap H locs) (hU : U.heap = H) (hw : s.WarmedH U.vm) : z_B G b M U := by
  refine ⟨?_, va_K.moved hw.alike hK, hT.warm hw, hX.kept hS hU hw⟩
  rw [hU]
  exact hW
theorem z_blind {G : zG} {b : Nat} {M : zM} {As : List Value} : FrameBlind (va_Pc As (z_B G b M)) := by
  intro a U g mk q
  obtain ⟨q0, q1, q2, q3, qn, q4, q5, q6⟩ := q
  exact ⟨q0, q1, va_K.moved (u := U) (U := U.calling g mk a) (Vm.Alike.refl U.vm) q2, z_TW.same (s := U) (U := U.calling g mk a) rfl q3, fun z hz => va_Nc.moved (u := U) (U := U.calling g mk a) (Vm.Alike.refl U.vm) (qn z hz), vx_Zq.moved (u := U) (U := U.calling g mk a) (Vm.Alike.refl U.vm) q4, vx_Zq.moved (u := U) (U := U.calling g mk a) (Vm.Alike.refl U.vm) q5, fun z hz => by
    obtain ⟨x, hx⟩ := q6 z hz
    exact ⟨x, vk_R.same (u := U) (U := U.calling g mk a) rfl hx⟩⟩
/-- the place of a walk that does not move: program, launch, environment, room, start, method, arguments, frames below, method, code, goal -/
abbrev zC : Type := Program × Launch × Env × Room × State × MethodId × Array Value × List Frame × Method × Code × (State → Prop)
def z_Go (Γ : zC) (H : Heap) (locs : List Loc) (cs ss : Nat) (pc : Nat) (ls : Array Slot) (st : List Value) : Prop := match Γ with
  | (p, l, e, R, s, m, args, below, meth, c, Q) => W p l e R s m args below meth c H locs cs ss Q (F0 m pc ls st)
def z_s (Γ : zC) : State := Γ.2.2.2.2.1
def z_c (Γ : zC) : Code := Γ.2.2.2.2.2.2.2.2.2.1
def GW (Γ : zC) (G : zG) (b cs ss : Nat) (M : zM) (pc : Nat) (lv : List (Nat × Value)) (st : List Value) : Prop :=
  ∀ (H : Heap) (locs : List Loc) (ls : Array Slot), z_W G b M H → va_S (fun q => b ≤ q) (z_s Γ).heap H locs → lv_has ls (z_c Γ).maxLocals lv → z_Go Γ H locs cs ss pc ls st
def z_CX (Γ : zC) (G : zG) (b nL : Nat) (cc : ByteArray) (own : String) (rm : Room) : Prop := match Γ with
  | (p, l, _, R, s, m, _, _, meth, c, _) => p.tables.exec = Jvm.exec ∧ c.code = cc ∧ c.maxLocals = nL ∧ s.vm.findClass own = some m.cls ∧ z_TW s ∧ z_K G s ∧ z_X b s ∧ R = rm ∧ meth.locks = false ∧ l.stackTraces = false
section
theorem r_iconst {Γ : zC} {G : zG} {b nL cs ss pc : Nat} {cc : ByteArray} {own : String} {rm : Room} {M : zM} {lv : List (Nat × Value)} {st : List Value} {n : Int} {v : Int32} (X : z_CX Γ G b nL cc own rm) (hv : Int32.ofInt n = v) (hd : decode cc pc = .ok (.iconst n, 1)) (pc' : Nat) (hp : pc + 1 = pc') (k : GW Γ G b cs ss M pc' lv (.int v :: st)) : GW Γ G b cs ss M pc lv (st) := by
  obtain ⟨p, l, e, R, s, m, args, below, meth, c, Q⟩ := Γ
  subst hp
  exact fun H locs ls hW hS hl => lv_iconst X.1 X.2.1 hd hv (k H locs ls hW hS hl)
theorem r_bipush {Γ : zC} {G : zG} {b nL cs ss pc : Nat} {cc : ByteArray} {own : String} {rm : Room} {M : zM} {lv : List (Nat × Value)} {st : List Value} {n : Int} {v : Int32} (X : z_CX Γ G b nL cc own rm) (hv : (Int8.ofInt n).toInt32 = v) (hd : decode cc pc = .ok (.bipush n, 2)) (pc' : Nat) (hp : pc + 2 = pc') (k : GW Γ G b cs ss M pc' lv (.int v :: st)) : GW Γ G b cs ss M pc lv (st) := by
  obtain ⟨p, l, e, R, s, m, args, below, meth, c, Q⟩ := Γ
  subst hp
  exact fun H locs ls hW hS hl => lv_bipush X.1 X.2.1 hd hv (k H locs ls hW hS hl)
theorem r_sipush {Γ : zC} {G : zG} {b nL cs ss pc : Nat} {cc : ByteArray} {own : String} {rm : Room} {M : zM} {lv : List (Nat × Value)} {st : List Value} {n : Int} {v : Int32} (X : z_CX Γ G b nL cc own rm) (hv : (Int16.ofInt n).toInt32 = v) (hd : decode cc pc = .ok (.sipush n, 3)) (pc' : Nat) (hp : pc + 3 = pc') (k : GW Γ G b cs ss M pc' lv (.int v :: st)) : GW Γ G b cs ss M pc lv (st) := by
  obtain ⟨p, l, e, R, s, m, args, below, meth, c, Q⟩ := Γ
  subst hp
  exact fun H locs ls hW hS hl => lv_sipush X.1 X.2.1 hd hv (k H locs ls hW hS hl)
theorem r_null {Γ : zC} {G : zG} {b nL cs ss pc : Nat} {cc : ByteArray} {own : String} {rm : Room} {M : zM} {lv : List (Nat × Value)} {st : List Value}  (X : z_CX Γ G b nL cc own rm)  (hd : decode cc pc = .ok (.aconst_null, 1)) (pc' : Nat) (hp : pc + 1 = pc') (k : GW Γ G b cs ss M pc' lv (.null :: st)) : GW Γ G b cs ss M pc lv (st) := by
  obtain ⟨p, l, e, R, s, m, args, below, meth, c, Q⟩ := Γ
  subst hp
  exact fun H locs ls hW hS hl => lv_null X.1 X.2.1 hd (k H locs ls hW hS hl)
theorem r_iadd {Γ : zC} {G : zG} {b nL cs ss pc : Nat} {cc : ByteArray} {own : String} {rm : Room} {M : zM} {lv : List (Nat × Value)} {st : List Value} {x y : Int32} (X : z_CX Γ G b nL cc own rm)  (hd : decode cc pc = .ok (.iadd, 1)) (pc' : Nat) (hp : pc + 1 = pc') (k : GW Γ G b cs ss M pc' lv (.int (x + y) :: st)) : GW Γ G b cs ss M pc lv (.int y :: .int x :: st) := by
  obtain ⟨p, l, e, R, s, m, args, below, meth, c, Q⟩ := Γ
  subst hp
  exact fun H locs ls hW hS hl => lv_iadd X.1 X.2.1 hd (k H locs ls hW hS hl)
theorem r_isub {Γ : zC} {G : zG} {b nL cs ss pc : Nat} {cc : ByteArray} {own : String} {rm : Room} {M : zM} {lv : List (Nat × Value)} {st : List Value} {x y : Int32} (X : z_CX Γ G b nL cc own rm)  (hd : decode cc pc = .ok (.isub, 1)) (pc' : Nat) (hp : pc + 1 = pc') (k : GW Γ G b cs ss M pc' lv (.int (x - y) :: st)) : GW Γ G b cs ss M pc lv (.int y :: .int x :: st) := by
  obtain ⟨p, l, e, R, s, m, args, below, meth, c, Q⟩ := Γ
  subst hp
  exact fun H locs ls hW hS hl => lv_isub X.1 X.2.1 hd (k H locs ls hW hS hl)
theorem r_imul {Γ : zC} {G : zG} {b nL cs ss pc : Nat} {cc : ByteArray} {own : String} {rm : Room} {M : zM} {lv : List (Nat × Value)} {st : List Value} {x y : Int32} (X : z_CX Γ G b nL cc own rm)  (hd : decode cc pc = .ok (.imul, 1)) (pc' : Nat) (hp : pc + 1 = pc') (k : GW Γ G b cs ss M pc' lv (.int (x * y) :: st)) : GW Γ G b cs ss M pc lv (.int y :: .int x :: st) := by
  obtain ⟨p, l, e, R, s, m, args, below, meth, c, Q⟩ := Γ
  subst hp
  exact fun H locs ls hW hS hl => lv_imul X.1 X.2.1 hd (k H locs ls hW hS hl)
theorem r_iand {Γ : zC} {G : zG} {b nL cs ss pc : Nat} {cc : ByteArray} {own : String} {rm : Room} {M : zM} {lv : List (Nat × Value)} {st : List Value} {x y : Int32} (X : z_CX Γ G b nL cc own rm)  (hd : decode cc pc = .ok (.iand, 1)) (pc' : Nat) (hp : pc + 1 = pc') (k : GW Γ G b cs ss M pc' lv (.int (x &&& y) :: st)) : GW Γ G b cs ss M pc lv (.int y :: .int x :: st) := by
  obtain ⟨p, l, e, R, s, m, args, below, meth, c, Q⟩ := Γ
  subst hp
  exact fun H locs ls hW hS hl => lv_iand X.1 X.2.1 hd (k H locs ls hW hS hl)
theorem r_idiv {Γ : zC} {G : zG} {b nL cs ss pc : Nat} {cc : ByteArray} {own : String} {rm : Room} {M : zM} {lv : List (Nat × Value)} {st : List Value} {x y : Int32} (X : z_CX Γ G b nL cc own rm) (hne : ¬ y = 0) (hd : decode cc pc = .ok (.idiv, 1)) (pc' : Nat) (hp : pc + 1 = pc') (k : GW Γ G b cs ss M pc' lv (.int (x / y) :: st)) : GW Γ G b cs ss M pc lv (.int y :: .int x :: st) := by
  obtain ⟨p, l, e, R, s, m, args, below, meth, c, Q⟩ := Γ
  subst hp
  exact fun H locs ls hW hS hl => lv_idiv X.1 X.2.1 hd hne (k H locs ls hW hS hl)
theorem r_irem {Γ : zC} {G : zG} {b nL cs ss pc : Nat} {cc : ByteArray} {own : String} {rm : Room} {M : zM} {lv : List (Nat × Value)} {st : List Value} {x y : Int32} (X : z_CX Γ G b nL cc own rm) (hne : ¬ y = 0) (hd : decode cc pc = .ok (.irem, 1)) (pc' : Nat) (hp : pc + 1 = pc') (k : GW Γ G b cs ss M pc' lv (.int (x - x / y * y) :: st)) : GW Γ G b cs ss M pc lv (.int y :: .int x :: st) := by
  obtain ⟨p, l, e, R, s, m, args, below, meth, c, Q⟩ := Γ
  subst hp
  exact fun H locs ls hW hS hl => lv_irem X.1 X.2.1 hd hne (k H locs ls hW hS hl)
theorem r_ineg {Γ : zC} {G : zG} {b nL cs ss pc : Nat} {cc : ByteArray} {own : String} {rm : Room} {M : zM} {lv : List (Nat × Value)} {st : List Value} {x : Int32} (X : z_CX Γ G b nL cc own rm)  (hd : decode cc pc = .ok (.ineg, 1)) (pc' : Nat) (hp : pc + 1 = pc') (k : GW Γ G b cs ss M pc' lv (.int (-x) :: st)) : GW Γ G b cs ss M pc lv (.int x :: st) := by
  obtain ⟨p, l, e, R, s, m, args, below, meth, c, Q⟩ := Γ
  subst hp
  exact fun H locs ls hW hS hl => lv_ineg X.1 X.2.1 hd (k H locs ls hW hS hl)
theorem r_i2l {Γ : zC} {G : zG} {b nL cs ss pc : Nat} {cc : ByteArray} {own : String} {rm : Room} {M : zM} {lv : List (Nat × Value)} {st : List Value} {x : Int32} (X : z_CX Γ G b nL cc own rm)  (hd : decode cc pc = .ok (.i2l, 1)) (pc' : Nat) (hp : pc + 1 = pc') (k : GW Γ G b cs ss M pc' lv (.long x.toInt64 :: st)) : GW Γ G b cs ss M pc lv (.int x :: st) := by
  obtain ⟨p, l, e, R, s, m, args, below, meth, c, Q⟩ := Γ
  subst hp
  exact fun H locs ls hW hS hl => lv_i2l X.1 X.2.1 hd rfl (k H locs ls hW hS hl)
theorem r_lcmp {Γ : zC} {G : zG} {b nL cs ss pc : Nat} {cc : ByteArray} {own : String} {rm : Room} {M : zM} {lv : List (Nat × Value)} {st : List Value} {x y : Int64} (X : z_CX Γ G b nL cc own rm)  (hd : decode cc pc = .ok (.lcmp, 1)) (pc' : Nat) (hp : pc + 1 = pc') (k : GW Γ G b cs ss M pc' lv (.int (lg_cmp x y) :: st)) : GW Γ G b cs ss M pc lv (.long y :: .long x :: st) := by
  obtain ⟨p, l, e, R, s, m, args, below, meth, c, Q⟩ := Γ
  subst hp
  exact fun H locs ls hW hS hl => W.lcmp X.1 X.2.1 hd (k H locs ls hW hS hl)
theorem r_dup {Γ : zC} {G : zG} {b nL cs ss pc : Nat} {cc : ByteArray} {own : String} {rm : Room} {M : zM} {lv : List (Nat × Value)} {st : List Value} {v : Value} (X : z_CX Γ G b nL cc own rm) (hv : v.category = 1) (hd : decode cc pc = .ok (.dup, 1)) (pc' : Nat) (hp : pc + 1 = pc') (k : GW Γ G b cs ss M pc' lv (v :: v :: st)) : GW Γ G b cs ss M pc lv (v :: st) := by
  obtain ⟨p, l, e, R, s, m, args, below, meth, c, Q⟩ := Γ
  subst hp
  exact fun H locs ls hW hS hl => lv_dup X.1 X.2.1 hd hv (k H locs ls hW hS hl)
theorem r_dup2 {Γ : zC} {G : zG} {b nL cs ss pc : Nat} {cc : ByteArray} {own : String} {rm : Room} {M : zM} {lv : List (Nat × Value)} {st : List Value} {v w : Value} (X : z_CX Γ G b nL cc own rm) (hv : v.category = 1) (hw : w.category = 1) (hd : decode cc pc = .ok (.dup2, 1)) (pc' : Nat) (hp : pc + 1 = pc') (k : GW Γ G b cs ss M pc' lv (v :: w :: v :: w :: st)) : GW Γ G b cs ss M pc lv (v :: w :: st) := by
  obtain ⟨p, l, e, R, s, m, args, below, meth, c, Q⟩ := Γ
  subst hp
  exact fun H locs ls hW hS hl => lv_dup2_11 X.1 X.2.1 hd hv hw (k H locs ls hW hS hl)
theorem r_pop {Γ : zC} {G : zG} {b nL cs ss pc : Nat} {cc : ByteArray} {own : String} {rm : Room} {M : zM} {lv : List (Nat × Value)} {st : List Value} {v : Value} (X : z_CX Γ G b nL cc own rm) (hv : v.category = 1) (hd : decode cc pc = .ok (.pop, 1)) (pc' : Nat) (hp : pc + 1 = pc') (k : GW Γ G b cs ss M pc' lv (st)) : GW Γ G b cs ss M pc lv (v :: st) := by
  obtain ⟨p, l, e, R, s, m, args, below, meth, c, Q⟩ := Γ
  subst hp
  exact fun H locs ls hW hS hl => lv_pop X.1 X.2.1 hd hv (k H locs ls hW hS hl)
theorem r_iload_n {Γ : zC} {G : zG} {b nL cs ss pc : Nat} {cc : ByteArray} {own : String} {rm : Room} {M : zM} {lv : List (Nat × Value)} {st : List Value} {f : Fin 4} {x : Int32} (X : z_CX Γ G b nL cc own rm) (n : Nat) (hn : lv[n]? = some ((f : Nat), .int x)) (hd : decode cc pc = .ok (.iload_n f, 1)) (pc' : Nat) (hp : pc + 1 = pc') (k : GW Γ G b cs ss M pc' lv (.int x :: st)) : GW Γ G b cs ss M pc lv (st) := by
  obtain ⟨p, l, e, R, s, m, args, below, meth, c, Q⟩ := Γ
  subst hp
  exact fun H locs ls hW hS hl => lv_iload_n X.1 X.2.1 hd rfl (lv_at hl n hn) (k H locs ls hW hS hl)
theorem r_iload {Γ : zC} {G : zG} {b nL cs ss pc : Nat} {cc : ByteArray} {own : String} {rm : Room} {M : zM} {lv : List (Nat × Value)} {st : List Value} {i : Nat} {x : Int32} (X : z_CX Γ G b nL cc own rm) (n : Nat) (hn : lv[n]? = some (i, .int x)) (hd : decode cc pc = .ok (.iload i, 2)) (pc' : Nat) (hp : pc + 2 = pc') (k : GW Γ G b cs ss M pc' lv (.int x :: st)) : GW Γ G b cs ss M pc lv (st) := by
  obtain ⟨p, l, e, R, s, m, args, below, meth, c, Q⟩ := Γ
  subst hp
  exact fun H locs ls hW hS hl => lv_iload X.1 X.2.1 hd (lv_at hl n hn) (k H locs ls hW hS hl)
theorem r_istore_n {Γ : zC} {G : zG} {b nL cs ss pc : Nat} {cc : ByteArray} {own : String} {rm : Room} {M : zM} {lv : List (Nat × Value)} {st : List Value} {f : Fin 4} {x : Int32} (X : z_CX Γ G b nL cc own rm) (hd : decode cc pc = .ok (.istore_n f, 1)) (pc' : Nat) (hp : pc + 1 = pc') (lv' : List (Nat × Value)) (hi : (f : Nat) < nL) (ks : List Nat) (hv : lv_pick (((f : Nat), Value.int x) :: lv.filter (fun q => !(q.1 == (f : Nat)) && !(q.1 + 1 == (f : Nat) && q.2.category == 2))) ks = lv') (k : GW Γ G b cs ss M pc' lv' st) : GW Γ G b cs ss M pc lv (.int x :: st) := by
  obtain ⟨p, l, e, R, s, m, args, below, meth, c, Q⟩ := Γ
  subst hp
  exact fun H locs ls hW hS hl => lv_istore_n X.1 X.2.1 hd rfl hl (Nat.lt_of_lt_of_eq hi (X.2.2.1).symm) rfl (fun ls' hl' => k H locs ls' hW hS (lv_sub hl' ks hv))
theorem r_istore {Γ : zC} {G : zG} {b nL cs ss pc : Nat} {cc : ByteArray} {own : String} {rm : Room} {M : zM} {lv : List (Nat × Value)} {st : List Value} {i : Nat} {x : Int32} (X : z_CX Γ G b nL cc own rm) (hd : decode cc pc = .ok (.istore i, 2)) (pc' : Nat) (hp : pc + 2 = pc') (lv' : List (Nat × Value)) (hi : i < nL) (ks : List Nat) (hv : lv_pick ((i, Value.int x) :: lv.filter (fun q => !(q.1 == i) && !(q.1 + 1 == i && q.2.category == 2))) ks = lv') (k : GW Γ G b cs ss M pc' lv' st) : GW Γ G b cs ss M pc lv (.int x :: st) := by
  obtain ⟨p, l, e, R, s, m, args, below, meth, c, Q⟩ := Γ
  subst hp
  exact fun H locs ls hW hS hl => lv_istore X.1 X.2.1 hd hl (Nat.lt_of_lt_of_eq hi (X.2.2.1).symm) rfl (fun ls' hl' => k H locs ls' hW hS (lv_sub hl' ks hv))
theorem r_aload_n {Γ : zC} {G : zG} {b nL cs ss pc : Nat} {cc : ByteArray} {own : String} {rm : Room} {M : zM} {lv : List (Nat × Value)} {st : List Value} {f : Fin 4} {x : Nat} (X : z_CX Γ G b nL cc own rm) (n : Nat) (hn : lv[n]? = some ((f : Nat), .ref x)) (hd : decode cc pc = .ok (.aload_n f, 1)) (pc' : Nat) (hp : pc + 1 = pc') (k : GW Γ G b cs ss M pc' lv (.ref x :: st)) : GW Γ G b cs ss M pc lv (st) := by
  obtain ⟨p, l, e, R, s, m, args, below, meth, c, Q⟩ := Γ
  subst hp
  exact fun H locs ls hW hS hl => lv_aload_n X.1 X.2.1 hd rfl (lv_at hl n hn) (k H locs ls hW hS hl)
theorem r_aload {Γ : zC} {G : zG} {b nL cs ss pc : Nat} {cc : ByteArray} {own : String} {rm : Room} {M : zM} {lv : List (Nat × Value)} {st : List Value} {i : Nat} {x : Nat} (X : z_CX Γ G b nL cc own rm) (n : Nat) (hn : lv[n]? = some (i, .ref x)) (hd : decode cc pc = .ok (.aload i, 2)) (pc' : Nat) (hp : pc + 2 = pc') (k : GW Γ G b cs ss M pc' lv (.ref x :: st)) : GW Γ G b cs ss M pc lv (st) := by
  obtain ⟨p, l, e, R, s, m, args, below, meth, c, Q⟩ := Γ
  subst hp
  exact fun H locs ls hW hS hl => lv_aload X.1 X.2.1 hd (lv_at hl n hn) (k H locs ls hW hS hl)
theorem r_astore_n {Γ : zC} {G : zG} {b nL cs ss pc : Nat} {cc : ByteArray} {own : String} {rm : Room} {M : zM} {lv : List (Nat × Value)} {st : List Value} {f : Fin 4} {x : Nat} (X : z_CX Γ G b nL cc own rm) (hd : decode cc pc = .ok (.astore_n f, 1)) (pc' : Nat) (hp : pc + 1 = pc') (lv' : List (Nat × Value)) (hi : (f : Nat) < nL) (ks : List Nat) (hv : lv_pick (((f : Nat), Value.ref x) :: lv.filter (fun q => !(q.1 == (f : Nat)) && !(q.1 + 1 == (f : Nat) && q.2.category == 2))) ks = lv') (k : GW Γ G b cs ss M pc' lv' st) : GW Γ G b cs ss M pc lv (.ref x :: st) := by
  obtain ⟨p, l, e, R, s, m, args, below, meth, c, Q⟩ := Γ
  subst hp
  exact fun H locs ls hW hS hl => lv_astore_n X.1 X.2.1 hd rfl hl (Nat.lt_of_lt_of_eq hi (X.2.2.1).symm) rfl (fun ls' hl' => k H locs ls' hW hS (lv_sub hl' ks hv))
theorem r_astore {Γ : zC} {G : zG} {b nL cs ss pc : Nat} {cc : ByteArray} {own : String} {rm : Room} {M : zM} {lv : List (Nat × Value)} {st : List Value} {i : Nat} {x : Nat} (X : z_CX Γ G b nL cc own rm) (hd : decode cc pc = .ok (.astore i, 2)) (pc' : Nat) (hp : pc + 2 = pc') (lv' : List (Nat × Value)) (hi : i < nL) (ks : List Nat) (hv : lv_pick ((i, Value.ref x) :: lv.filter (fun q => !(q.1 == i) && !(q.1 + 1 == i && q.2.category == 2))) ks = lv') (k : GW Γ G b cs ss M pc' lv' st) : GW Γ G b cs ss M pc lv (.ref x :: st) := by
  obtain ⟨p, l, e, R, s, m, args, below, meth, c, Q⟩ := Γ
  subst hp
  exact fun H locs ls hW hS hl => lv_astore X.1 X.2.1 hd hl (Nat.lt_of_lt_of_eq hi (X.2.2.1).symm) rfl (fun ls' hl' => k H locs ls' hW hS (lv_sub hl' ks hv))
theorem r_iinc {Γ : zC} {G : zG} {b nL cs ss pc : Nat} {cc : ByteArray} {own : String} {rm : Room} {M : zM} {lv : List (Nat × Value)} {st : List Value} {i : Nat} {n : Int} {x : Int32} (X : z_CX Γ G b nL cc own rm) (hd : decode cc pc = .ok (.iinc i n, 3)) (pc' : Nat) (hp : pc + 3 = pc') (lv' : List (Nat × Value)) (hi : i < nL) (j : Nat) (hj : lv[j]? = some (i, .int x)) (v : Int32) (hx : x + Int32.ofInt n = v) (ks : List Nat) (hv : lv_pick ((i, Value.int v) :: lv.filter (fun q => !(q.1 == i) && !(q.1 + 1 == i && q.2.category == 2))) ks = lv') (k : GW Γ G b cs ss M pc' lv' st) : GW Γ G b cs ss M pc lv st := by
  obtain ⟨p, l, e, R, s, m, args, below, meth, c, Q⟩ := Γ
  subst hp
  exact fun H locs ls hW hS hl => lv_iinc X.1 X.2.1 hd hl hj hx (Nat.lt_of_lt_of_eq hi (X.2.2.1).symm) rfl (fun ls' hl' => k H locs ls' hW hS (lv_sub hl' ks hv))
theorem r_sub {Γ : zC} {G : zG} {b nL cs ss pc : Nat} {cc : ByteArray} {own : String} {rm : Room} {M : zM} {lv : List (Nat × Value)} {st : List Value} (lv' : List (Nat × Value)) (ks : List Nat) (hv : lv_pick lv ks = lv') (k : GW Γ G b cs ss M pc lv' st) : GW Γ G b cs ss M pc lv st := fun H locs ls hW hS hl => k H locs ls hW hS (lv_sub hl ks hv)
theorem r_if_eq {Γ : zC} {G : zG} {b nL cs ss pc : Nat} {cc : ByteArray} {own : String} {rm : Room} {M : zM} {lv : List (Nat × Value)} {st : List Value} {x : Int32} {off : Int} (X : z_CX Γ G b nL cc own rm) (hd : decode cc pc = .ok (.ifCond .eq off, 3)) (tgt : Nat) (ht : (pc : Int) + off = (tgt : Int)) (pc' : Nat) (hp : pc + 3 = pc') (kt : x = 0 → GW Γ G b cs ss M tgt lv st) (kf : ¬ (x = 0) → GW Γ G b cs ss M pc' lv st) : GW Γ G b cs ss M pc lv (.int x :: st) := by
  obtain ⟨p, l, e, R, s, m, args, below, meth, c, Q⟩ := Γ
  subst hp
  exact fun H locs ls hW hS hl => lv_if_eq X.1 X.2.1 hd ht (fun q => kt q H locs ls hW hS hl) (fun q => kf q H locs ls hW hS hl)
theorem r_if_ne {Γ : zC} {G : zG} {b nL cs ss pc : Nat} {cc : ByteArray} {own : String} {rm : Room} {M : zM} {lv : List (Nat × Value)} {st : List Value} {x : Int32} {off : Int} (X : z_CX Γ G b nL cc own rm) (hd : decode cc pc = .ok (.ifCond .ne off, 3)) (tgt : Nat) (ht : (pc : Int) + off = (tgt : Int)) (pc' : Nat) (hp : pc + 3 = pc') (kt : ¬ x = 0 → GW Γ G b cs ss M tgt lv st) (kf : x = 0 → GW Γ G b cs ss M pc' lv st) : GW Γ G b cs ss M pc lv (.int x :: st) := by
  obtain ⟨p, l, e, R, s, m, args, below, meth, c, Q⟩ := Γ
  subst hp
  exact fun H locs ls hW hS hl => lv_if_ne X.1 X.2.1 hd ht (fun q => kt q H locs ls hW hS hl) (fun q => kf q H locs ls hW hS hl)
theorem r_if_lt {Γ : zC} {G : zG} {b nL cs ss pc : Nat} {cc : ByteArray} {own : String} {rm : Room} {M : zM} {lv : List (Nat × Value)} {st : List Value} {x : Int32} {off : Int} (X : z_CX Γ G b nL cc own rm) (hd : decode cc pc = .ok (.ifCond .lt off, 3)) (tgt : Nat) (ht : (pc : Int) + off = (tgt : Int)) (pc' : Nat) (hp : pc + 3 = pc') (kt : x < 0 → GW Γ G b cs ss M tgt lv st) (kf : ¬ (x < 0) → GW Γ G b cs ss M pc' lv st) : GW Γ G b cs ss M pc lv (.int x :: st) := by
  obtain ⟨p, l, e, R, s, m, args, below, meth, c, Q⟩ := Γ
  subst hp
  exact fun H locs ls hW hS hl => lv_if_lt X.1 X.2.1 hd ht (fun q => kt q H locs ls hW hS hl) (fun q => kf q H locs ls hW hS hl)
theorem r_if_ge {Γ : zC} {G : zG} {b nL cs ss pc : Nat} {cc : ByteArray} {own : String} {rm : Room} {M : zM} {lv : List (Nat × Value)} {st : List Value} {x : Int32} {off : Int} (X : z_CX Γ G b nL cc own rm) (hd : decode cc pc = .ok (.ifCond .ge off, 3)) (tgt : Nat) (ht : (pc : Int) + off = (tgt : Int)) (pc' : Nat) (hp : pc + 3 = pc') (kt : 0 ≤ x → GW Γ G b cs ss M tgt lv st) (kf : ¬ (0 ≤ x) → GW Γ G b cs ss M pc' lv st) : GW Γ G b cs ss M pc lv (.int x :: st) := by
  obtain ⟨p, l, e, R, s, m, args, below, meth, c, Q⟩ := Γ
  subst hp
  exact fun H locs ls hW hS hl => lv_if_ge X.1 X.2.1 hd ht (fun q => kt q H locs ls hW hS hl) (fun q => kf q H locs ls hW hS hl)
theorem r_if_gt {Γ : zC} {G : zG} {b nL cs ss pc : Nat} {cc : ByteArray} {own : String} {rm : Room} {M : zM} {lv : List (Nat × Value)} {st : List Value} {x : Int32} {off : Int} (X : z_CX Γ G b nL cc own rm) (hd : decode cc pc = .ok (.ifCond .gt off, 3)) (tgt : Nat) (ht : (pc : Int) + off = (tgt : Int)) (pc' : Nat) (hp : pc + 3 = pc') (kt : 0 < x → GW Γ G b cs ss M tgt lv st) (kf : ¬ (0 < x) → GW Γ G b cs ss M pc' lv st) : GW Γ G b cs ss M pc lv (.int x :: st) := by
  obtain ⟨p, l, e, R, s, m, args, below, meth, c, Q⟩ := Γ
  subst hp
  exact fun H locs ls hW hS hl => lv_if_gt X.1 X.2.1 hd ht (fun q => kt q H locs ls hW hS hl) (fun q => kf q H locs ls hW hS hl)
theorem r_if_le {Γ : zC} {G : zG} {b nL cs ss pc : Nat} {cc : ByteArray} {own : String} {rm : Room} {M : zM} {lv : List (Nat × Value)} {st : List Value} {x : Int32} {off : Int} (X : z_CX Γ G b nL cc own rm) (hd : decode cc pc = .ok (.ifCond .le off, 3)) (tgt : Nat) (ht : (pc : Int) + off = (tgt : Int)) (pc' : Nat) (hp : pc + 3 = pc') (kt : x ≤ 0 → GW Γ G b cs ss M tgt lv st) (kf : ¬ (x ≤ 0) → GW Γ G b cs ss M pc' lv st) : GW Γ G b cs ss M pc lv (.int x :: st) := by
  obtain ⟨p, l, e, R, s, m, args, below, meth, c, Q⟩ := Γ
  subst hp
  exact fun H locs ls hW hS hl => lv_if_le X.1 X.2.1 hd ht (fun q => kt q H locs ls hW hS hl) (fun q => kf q H locs ls hW hS hl)
theorem r_icmp_eq {Γ : zC} {G : zG} {b nL cs ss pc : Nat} {cc : ByteArray} {own : String} {rm : Room} {M : zM} {lv : List (Nat × Value)} {st : List Value} {x y : Int32} {off : Int} (X : z_CX Γ G b nL cc own rm) (hd : decode cc pc = .ok (.if_icmp .eq off, 3)) (tgt : Nat) (ht : (pc : Int) + off = (tgt : Int)) (pc' : Nat) (hp : pc + 3 = pc') (kt : x = y → GW Γ G b cs ss M tgt lv st) (kf : ¬ (x = y) → GW Γ G b cs ss M pc' lv st) : GW Γ G b cs ss M pc lv (.int y :: .int x :: st) := by
  obtain ⟨p, l, e, R, s, m, args, below, meth, c, Q⟩ := Γ
  subst hp
  exact fun H locs ls hW hS hl => lv_icmp_eq X.1 X.2.1 hd ht (fun q => kt q H locs ls hW hS hl) (fun q => kf q H locs ls hW hS hl)
theorem r_icmp_ne {Γ : zC} {G : zG} {b nL cs ss pc : Nat} {cc : ByteArray} {own : String} {rm : Room} {M : zM} {lv : List (Nat × Value)} {st : List Value} {x y : Int32} {off : Int} (X : z_CX Γ G b nL cc own rm) (hd : decode cc pc = .ok (.if_icmp .ne off, 3)) (tgt : Nat) (ht : (pc : Int) + off = (tgt : Int)) (pc' : Nat) (hp : pc + 3 = pc') (kt : ¬ x = y → GW Γ G b cs ss M tgt lv st) (kf : x = y → GW Γ G b cs ss M pc' lv st) : GW Γ G b cs ss M pc lv (.int y :: .int x :: st) := by
  obtain ⟨p, l, e, R, s, m, args, below, meth, c, Q⟩ := Γ
  subst hp
  exact fun H locs ls hW hS hl => lv_icmp_ne X.1 X.2.1 hd ht (fun q => kt q H locs ls hW hS hl) (fun q => kf q H locs ls hW hS hl)
theorem r_icmp_lt {Γ : zC} {G : zG} {b nL cs ss pc : Nat} {cc : ByteArray} {own : String} {rm : Room} {M : zM} {lv : List (Nat × Value)} {st : List Value} {x y : Int32} {off : Int} (X : z_CX Γ G b nL cc own rm) (hd : decode cc pc = .ok (.if_icmp .lt off, 3)) (tgt : Nat) (ht : (pc : Int) + off = (tgt : Int)) (pc' : Nat) (hp : pc + 3 = pc') (kt : x < y → GW Γ G b cs ss M tgt lv st) (kf : ¬ (x < y) → GW Γ G b cs ss M pc' lv st) : GW Γ G b cs ss M pc lv (.int y :: .int x :: st) := by
  obtain ⟨p, l, e, R, s, m, args, below, meth, c, Q⟩ := Γ
  subst hp
  exact fun H locs ls hW hS hl => lv_icmp_lt X.1 X.2.1 hd ht (fun q => kt q H locs ls hW hS hl) (fun q => kf q H locs ls hW hS hl)
theorem r_icmp_ge {Γ : zC} {G : zG} {b nL cs ss pc : Nat} {cc : ByteArray} {own : String} {rm : Room} {M : zM} {lv : List (Nat × Value)} {st : List Value} {x y : Int32} {off : Int} (X : z_CX Γ G b nL cc own rm) (hd : decode cc pc = .ok (.if_icmp .ge off, 3)) (tgt : Nat) (ht : (pc : Int) + off = (tgt : Int)) (pc' : Nat) (hp : pc + 3 = pc') (kt : y ≤ x → GW Γ G b cs ss M tgt lv st) (kf : ¬ (y ≤ x) → GW Γ G b cs ss M pc' lv st) : GW Γ G b cs ss M pc lv (.int y :: .int x :: st) := by
  obtain ⟨p, l, e, R, s, m, args, below, meth, c, Q⟩ := Γ
  subst hp
  exact fun H locs ls hW hS hl => lv_icmp_ge X.1 X.2.1 hd ht (fun q => kt q H locs ls hW hS hl) (fun q => kf q H locs ls hW hS hl)
theorem r_icmp_gt {Γ : zC} {G : zG} {b nL cs ss pc : Nat} {cc : ByteArray} {own : String} {rm : Room} {M : zM} {lv : List (Nat × Value)} {st : List Value} {x y : Int32} {off : Int} (X : z_CX Γ G b nL cc own rm) (hd : decode cc pc = .ok (.if_icmp .gt off, 3)) (tgt : Nat) (ht : (pc : Int) + off = (tgt : Int)) (pc' : Nat) (hp : pc + 3 = pc') (kt : y < x → GW Γ G b cs ss M tgt lv st) (kf : ¬ (y < x) → GW Γ G b cs ss M pc' lv st) : GW Γ G b cs ss M pc lv (.int y :: .int x :: st) := by
  obtain ⟨p, l, e, R, s, m, args, below, meth, c, Q⟩ := Γ
  subst hp
  exact fun H locs ls hW hS hl => lv_icmp_gt X.1 X.2.1 hd ht (fun q => kt q H locs ls hW hS hl) (fun q => kf q H locs ls hW hS hl)
theorem r_icmp_le {Γ : zC} {G : zG} {b nL cs ss pc : Nat} {cc : ByteArray} {own : String} {rm : Room} {M : zM} {lv : List (Nat × Value)} {st : List Value} {x y : Int32} {off : Int} (X : z_CX Γ G b nL cc own rm) (hd : decode cc pc = .ok (.if_icmp .le off, 3)) (tgt : Nat) (ht : (pc : Int) + off = (tgt : Int)) (pc' : Nat) (hp : pc + 3 = pc') (kt : x ≤ y → GW Γ G b cs ss M tgt lv st) (kf : ¬ (x ≤ y) → GW Γ G b cs ss M pc' lv st) : GW Γ G b cs ss M pc lv (.int y :: .int x :: st) := by
  obtain ⟨p, l, e, R, s, m, args, below, meth, c, Q⟩ := Γ
  subst hp
  exact fun H locs ls hW hS hl => lv_icmp_le X.1 X.2.1 hd ht (fun q => kt q H locs ls hW hS hl) (fun q => kf q H locs ls hW hS hl)
theorem r_goto {Γ : zC} {G : zG} {b nL cs ss pc : Nat} {cc : ByteArray} {own : String} {rm : Room} {M : zM} {lv : List (Nat × Value)} {st : List Value} {off : Int} (X : z_CX Γ G b nL cc own rm) (hd : decode cc pc = .ok (.goto off, 3)) (tgt : Nat) (ht : (pc : Int) + off = (tgt : Int)) (k : GW Γ G b cs ss M tgt lv st) : GW Γ G b cs ss M pc lv st := by
  obtain ⟨p, l, e, R, s, m, args, below, meth, c, Q⟩ := Γ
  exact fun H locs ls hW hS hl => lv_goto X.1 X.2.1 hd ht (k H locs ls hW hS hl)
theorem r_ifnull_r {Γ : zC} {G : zG} {b nL cs ss pc : Nat} {cc : ByteArray} {own : String} {rm : Room} {M : zM} {lv : List (Nat × Value)} {st : List Value} {x : Nat} {off : Int} (X : z_CX Γ G b nL cc own rm) (hd : decode cc pc = .ok (.ifnull off, 3)) (pc' : Nat) (hp : pc + 3 = pc') (k : GW Γ G b cs ss M pc' lv st) : GW Γ G b cs ss M pc lv (.ref x :: st) := by
  obtain ⟨p, l, e, R, s, m, args, below, meth, c, Q⟩ := Γ
  subst hp
  exact fun H locs ls hW hS hl => lv_ifnull X.1 X.2.1 hd (k H locs ls hW hS hl)
theorem r_ifnull_n {Γ : zC} {G : zG} {b nL cs ss pc : Nat} {cc : ByteArray} {own : String} {rm : Room} {M : zM} {lv : List (Nat × Value)} {st : List Value}  {off : Int} (X : z_CX Γ G b nL cc own rm) (hd : decode cc pc = .ok (.ifnull off, 3)) (tgt : Nat) (ht : (pc : Int) + off = (tgt : Int)) (k : GW Γ G b cs ss M tgt lv st) : GW Γ G b cs ss M pc lv (.null :: st) := by
  obtain ⟨p, l, e, R, s, m, args, below, meth, c, Q⟩ := Γ
  exact fun H locs ls hW hS hl => lv_ifnullN X.1 X.2.1 hd ht (k H locs ls hW hS hl)
theorem r_ifnonnull_r {Γ : zC} {G : zG} {b nL cs ss pc : Nat} {cc : ByteArray} {own : String} {rm : Room} {M : zM} {lv : List (Nat × Value)} {st : List Value} {x : Nat} {off : Int} (X : z_CX Γ G b nL cc own rm) (hd : decode cc pc = .ok (.ifnonnull off, 3)) (tgt : Nat) (ht : (pc : Int) + off = (tgt : Int)) (k : GW Γ G b cs ss M tgt lv st) : GW Γ G b cs ss M pc lv (.ref x :: st) := by
  obtain ⟨p, l, e, R, s, m, args, below, meth, c, Q⟩ := Γ
  exact fun H locs ls hW hS hl => lv_ifnonnull X.1 X.2.1 hd ht (k H locs ls hW hS hl)
theorem r_ifnonnull_n {Γ : zC} {G : zG} {b nL cs ss pc : Nat} {cc : ByteArray} {own : String} {rm : Room} {M : zM} {lv : List (Nat × Value)} {st : List Value}  {off : Int} (X : z_CX Γ G b nL cc own rm) (hd : decode cc pc = .ok (.ifnonnull off, 3)) (pc' : Nat) (hp : pc + 3 = pc') (k : GW Γ G b cs ss M pc' lv st) : GW Γ G b cs ss M pc lv (.null :: st) := by
  obtain ⟨p, l, e, R, s, m, args, below, meth, c, Q⟩ := Γ
  subst hp
  exact fun H locs ls hW hS hl => lv_ifnonnullN X.1 X.2.1 hd (k H locs ls hW hS hl)
end
/-! ===== the cells read and written ===== -/
theorem z_lt {a : Nat} (ha : (a == 99) = false) {k : Nat} (hk : z_kd k = a) : k < 175 := (z_all (P := fun _ => true) (by simp) ha hk).1
theorem z_ent_o {G : zG} {b : Nat} {M : zM} {k c : Nat} (hk : z_kd k = c) (hc : c < 8) : z_ent G b M k = .inr (c, z_fl c b k (M k)) := by
  unfold z_ent
  rw [hk, if_pos hc]
theorem z_ent_a {G : zG} {b : Nat} {M : zM} {k c : Nat} (hk : z_kd k = c) (hc : ¬ c < 8) : z_ent G b M k = .inl (G.2.2 c, z_ar c b (z_ln k) k (M k)) := by
  unfold z_ent
  rw [hk, if_neg hc]
theorem z_st_same (M : zM) (k j : Nat) (v : Int32) : z_st M k j v k = upd (M k) j v := if_pos rfl
theorem z_st_ne (M : zM) {k a : Nat} (j : Nat) (v : Int32) (h : a ≠ k) : z_st M k j v a = M a := if_neg h
def z_ld (M : zM) (k n : Nat) (i : Int32) : Option Int32 := if i < 0 ∨ n ≤ i.toNatClampNeg then none else some (M k i.toNatClampNeg)
def z_lq (c k n : Nat) (i : Int32) : Option Nat := if i < 0 ∨ n ≤ i.toNatClampNeg then none else some (z_rf c k i.toNatClampNeg)
def z_sa (M : zM) (k n : Nat) (i v : Int32) : Option zM := if i < 0 ∨ n ≤ i.toNatClampNeg then none else some (z_st M k i.toNatClampNeg v)
def z_sb (M : zM) (k n : Nat) (i v : Int32) : Option zM := if i < 0 ∨ n ≤ i.toNatClampNeg then none else if vp_nar .boolean v = v then some (z_st M k i.toNatClampNeg v) else none
def z_pz (M : zM) (k j : Nat) (v : Int32) : Option zM := if narrow .boolean (.int v) = .int v then some (z_st M k j v) else none
theorem z_ld_of {M : zM} {k n : Nat} {i x : Int32} (h : z_ld M k n i = some x) : vp_in i n ∧ x = M k i.toNatClampNeg := by
  unfold z_ld at h
  split at h
  · cases h
  · rename_i q
    exact ⟨q, (Option.some.inj h).symm⟩
theorem z_lq_of {c k n : Nat} {i : Int32} {x : Nat} (h : z_lq c k n i = some x) : vp_in i n ∧ x = z_rf c k i.toNatClampNeg := by
  unfold z_lq at h
  split at h
  · cases h
  · rename_i q
    exact ⟨q, (Option.some.inj h).symm⟩
theorem z_sa_of {M M1 : zM} {k n : Nat} {i v : Int32} (h : z_sa M k n i v = some M1) : vp_in i n ∧ M1 = z_st M k i.toNatClampNeg v := by
  unfold z_sa at h
  split at h
  · cases h
  · rename_i q
    exact ⟨q, (Option.some.inj h).symm⟩
theorem z_sb_of {M M1 : zM} {k n : Nat} {i v : Int32} (h : z_sb M k n i v = some M1) : vp_in i n ∧ vp_nar .boolean v = v ∧ M1 = z_st M k i.toNatClampNeg v := by
  unfold z_sb at h
  split at h
  · cases h
  · rename_i q
    split at h
    · rename_i q2
      exact ⟨q, q2, (Option.some.inj h).symm⟩
    · cases h
theorem z_pz_of {M M1 : zM} {k j : Nat} {v : Int32} (h : z_pz M k j v = some M1) : narrow .boolean (.int v) = .int v ∧ M1 = z_st M k j v := by
  unfold z_pz at h
  split at h
  · rename_i q2
    exact ⟨q2, (Option.some.inj h).symm⟩
  · cases h
theorem r_get {Γ : zC} {G : zG} {b nL cs ss pc : Nat} {cc : ByteArray} {own : String} {rm : Room} {M : zM} {lv : List (Nat × Value)} {st : List Value} {k c j N idx : Nat} {C ref : String} {T : u_T} {v : Value} (X : z_CX Γ G b nL cc own rm) (hk : z_kd k = c) (hc8 : Nat.blt c 8 = true) (hc : vwCl[c]? = some (C, T, N)) (hin : ∀ w ∈ u_ws C T N, w ∈ z_TB) (hj : Nat.blt j N = true) (hl : Cond.fieldLink own idx ref (T j).2.1 (T j).2.2.1 ∈ z_TB) (href : (T j).1 = ref) (hv : (z_fl c b k (M k))[j]? = some v) (hd : decode cc pc = .ok (.getfield idx, 3)) (pc' : Nat) (hp : pc + 3 = pc') (K : GW Γ G b cs ss M pc' lv (v :: st)) : GW Γ G b cs ss M pc lv (.ref (b + k) :: st) := by
  obtain ⟨p, l, e, R, s, m, args, below, meth, c0, Q⟩ := Γ
  subst hp
  obtain ⟨hx, hb, hml, hown, hT, hK, hX, -⟩ := X
  have hc9 : c < 8 := Nat.le_of_ble_eq_true hc8
  have hlt : k < 175 := z_lt (by cases h9 : (c == 99) with | false => rfl | true => rw [beq_iff_eq.mp h9] at hc9; omega) hk
  exact fun H locs ls hW hS hl9 => va_get (D := (G.1, G.2.1)) (cl := vwCl) (ci := c) (C := C) (T := T) (N := N) hx hb (fun w hw => hT.use hw) hin hown hK (z_WP hW) k ((z_wl_get hlt).trans (by rw [z_ent_o hk hc9])) hc j (Nat.le_of_ble_eq_true hj) (hT.use hl) (fun x h9 => by rw [← href]; exact h9) hv hd (K H locs ls hW hS hl9)
theorem r_getN {Γ : zC} {G : zG} {b nL cs ss pc : Nat} {cc : ByteArray} {own : String} {rm : Room} {M : zM} {lv : List (Nat × Value)} {st : List Value} {k c j N idx : Nat} {C ref host : String} {T : u_T} {v : Value} (X : z_CX Γ G b nL cc own rm) (hk : z_kd k = c) (hc8 : Nat.blt c 8 = true) (hc : vwCl[c]? = some (C, T, N)) (hin : ∀ w ∈ u_ws C T N, w ∈ z_TB) (hj : Nat.blt j N = true) (hl : Cond.fieldLinkNest own idx ref (T j).2.1 (T j).2.2.1 host ∈ z_TB) (href : (T j).1 = ref) (hv : (z_fl c b k (M k))[j]? = some v) (hd : decode cc pc = .ok (.getfield idx, 3)) (pc' : Nat) (hp : pc + 3 = pc') (K : GW Γ G b cs ss M pc' lv (v :: st)) : GW Γ G b cs ss M pc lv (.ref (b + k) :: st) := by
  obtain ⟨p, l, e, R, s, m, args, below, meth, c0, Q⟩ := Γ
  subst hp
  obtain ⟨hx, hb, hml, hown, hT, hK, hX, -⟩ := X
  have hc9 : c < 8 := Nat.le_of_ble_eq_true hc8
  have hlt : k < 175 := z_lt (by cases h9 : (c == 99) with | false => rfl | true => rw [beq_iff_eq.mp h9] at hc9; omega) hk
  exact fun H locs ls hW hS hl9 => va_getN (D := (G.1, G.2.1)) (cl := vwCl) (ci := c) (C := C) (T := T) (N := N) hx hb (fun w hw => hT.use hw) hin hown hK (z_WP hW) k ((z_wl_get hlt).trans (by rw [z_ent_o hk hc9])) hc j (Nat.le_of_ble_eq_true hj) (hT.use hl) (fun x h9 => by rw [← href]; exact h9) hv hd (K H locs ls hW hS hl9)
theorem r_put {Γ : zC} {G : zG} {b nL cs ss pc : Nat} {cc : ByteArray} {own : String} {rm : Room} {M : zM} {lv : List (Nat × Value)} {st : List Value} {k c j N idx : Nat} {C ref : String} {T : u_T} {x : Int32} {ty0 : Nat → FieldType} {ty : FieldType} (X : z_CX Γ G b nL cc own rm) (hk : z_kd k = c) (hc8 : Nat.blt c 8 = true) (hc : vwCl[c]? = some (C, T, N)) (hin : ∀ w ∈ u_ws C T N, w ∈ z_TB) (hj : Nat.blt j N = true) (hl : Cond.fieldLink own idx ref (T j).2.1 (T j).2.2.1 ∈ z_TB) (href : (T j).1 = ref) (hty : ∀ k, k < N → parseFieldDescriptor (T k).2.2.1 = some (ty0 k)) (hnm : ∀ a, a < N → ∀ b, b < N → a ≠ b → (T a).2.1 ≠ (T b).2.1) (hfin : (T j).2.2.2 = false) (htj : ty0 j = ty) (hn : narrow ty (.int x) = .int x) (hfit : fits ty (.int x) = true) (hlen : Nat.blt j (z_fl c b k (M k)).length = true) (hset : (z_fl c b k (M k)).set j (.int x) = z_fl c b k (upd (M k) j x)) {M1 : zM} (hM : z_st M k j x = M1) (hd : decode cc pc = .ok (.putfield idx, 3)) (pc' : Nat) (hp : pc + 3 = pc') (K : GW Γ G b cs ss M1 pc' lv st) : GW Γ G b cs ss M pc lv (.int x :: .ref (b + k) :: st) := by
  obtain ⟨p, l, e, R, s, m, args, below, meth, c0, Q⟩ := Γ
  subst hp
  subst hM
  obtain ⟨hx, hb, hml, hown, hT, hK, hX, -⟩ := X
  have hc9 : c < 8 := Nat.le_of_ble_eq_true hc8
  have hlt : k < 175 := z_lt (by cases h9 : (c == 99) with | false => rfl | true => rw [beq_iff_eq.mp h9] at hc9; omega) hk
  exact fun H locs ls hW hS hl9 => va_put (D := (G.1, G.2.1)) (cl := vwCl) (ci := c) (C := C) (T := T) (N := N) hx hb (fun w hw => hT.use hw) hin ty0 hty hnm hown hK (z_WP hW) z_WD hS k ((z_wl_get hlt).trans (by rw [z_ent_o hk hc9])) hc j (Nat.le_of_ble_eq_true hj) (hT.use hl) (fun x h9 => by rw [← href]; exact h9) hfin ((hty j (Nat.le_of_ble_eq_true hj)).trans (by rw [htj])) hn hfit (Nat.le_of_ble_eq_true hlen) hd (fun H1 locs1 hP1 _ hS1 => K H1 locs1 ls (z_Wset hlt hP1 (by rw [z_ent_o hk hc9, z_st_same, hset]) (fun a ha => z_st_ne M j x ha)) hS1 hl9)
theorem r_putN {Γ : zC} {G : zG} {b nL cs ss pc : Nat} {cc : ByteArray} {own : String} {rm : Room} {M : zM} {lv : List (Nat × Value)} {st : List Value} {k c j N idx : Nat} {C ref host : String} {T : u_T} {x : Int32} {ty0 : Nat → FieldType} {ty : FieldType} (X : z_CX Γ G b nL cc own rm) (hk : z_kd k = c) (hc8 : Nat.blt c 8 = true) (hc : vwCl[c]? = some (C, T, N)) (hin : ∀ w ∈ u_ws C T N, w ∈ z_TB) (hj : Nat.blt j N = true) (hl : Cond.fieldLinkNest own idx ref (T j).2.1 (T j).2.2.1 host ∈ z_TB) (href : (T j).1 = ref) (hty : ∀ k, k < N → parseFieldDescriptor (T k).2.2.1 = some (ty0 k)) (hnm : ∀ a, a < N → ∀ b, b < N → a ≠ b → (T a).2.1 ≠ (T b).2.1) (hfin : (T j).2.2.2 = false) (htj : ty0 j = ty) (hn : narrow ty (.int x) = .int x) (hfit : fits ty (.int x) = true) (hlen : Nat.blt j (z_fl c b k (M k)).length = true) (hset : (z_fl c b k (M k)).set j (.int x) = z_fl c b k (upd (M k) j x)) {M1 : zM} (hM : z_st M k j x = M1) (hd : decode cc pc = .ok (.putfield idx, 3)) (pc' : Nat) (hp : pc + 3 = pc') (K : GW Γ G b cs ss M1 pc' lv st) : GW Γ G b cs ss M pc lv (.int x :: .ref (b + k) :: st) := by
  obtain ⟨p, l, e, R, s, m, args, below, meth, c0, Q⟩ := Γ
  subst hp
  subst hM
  obtain ⟨hx, hb, hml, hown, hT, hK, hX, -⟩ := X
  have hc9 : c < 8 := Nat.le_of_ble_eq_true hc8
  have hlt : k < 175 := z_lt (by cases h9 : (c == 99) with | false => rfl | true => rw [beq_iff_eq.mp h9] at hc9; omega) hk
  exact fun H locs ls hW hS hl9 => va_putN (D := (G.1, G.2.1)) (cl := vwCl) (ci := c) (C := C) (T := T) (N := N) hx hb (fun w hw => hT.use hw) hin ty0 hty hnm hown hK (z_WP hW) z_WD hS k ((z_wl_get hlt).trans (by rw [z_ent_o hk hc9])) hc j (Nat.le_of_ble_eq_true hj) (hT.use hl) (fun x h9 => by rw [← href]; exact h9) hfin ((hty j (Nat.le_of_ble_eq_true hj)).trans (by rw [htj])) hn hfit (Nat.le_of_ble_eq_true hlen) hd (fun H1 locs1 hP1 _ hS1 => K H1 locs1 ls (z_Wset hlt hP1 (by rw [z_ent_o hk hc9, z_st_same, hset]) (fun a ha => z_st_ne M j x ha)) hS1 hl9)
theorem r_iaload {Γ : zC} {G : zG} {b nL cs ss pc : Nat} {cc : ByteArray} {own : String} {rm : Room} {M : zM} {lv : List (Nat × Value)} {st : List Value} {k n : Nat} {i x : Int32} (X : z_CX Γ G b nL cc own rm) (hk : z_kd k = 8) (hn : z_ln k = n) (e9 : z_ld M k n i = some x) (hd : decode cc pc = .ok (.iaload, 1)) (pc' : Nat) (hp : pc + 1 = pc') (K : GW Γ G b cs ss M pc' lv (.int x :: st)) : GW Γ G b cs ss M pc lv (.int i :: .ref (b + k) :: st) := by
  obtain ⟨p, l, e, R, s, m, args, below, meth, c0, Q⟩ := Γ
  subst hp
  obtain ⟨hx, hb, hml, hown, hT, hK, hX, -⟩ := X
  obtain ⟨hin, rfl⟩ := z_ld_of e9
  exact fun H locs ls hW hS hl9 => va_iald (D := (G.1, G.2.1)) (cl := vwCl) (n := n) (f := M k) hx hb hK (z_WP hW) k 0 ((z_wl_get (z_lt rfl hk)).trans (by rw [z_ent_a hk (by decide), hn]; rfl)) rfl hin hd (K H locs ls hW hS hl9)
theorem r_zaload {Γ : zC} {G : zG} {b nL cs ss pc : Nat} {cc : ByteArray} {own : String} {rm : Room} {M : zM} {lv : List (Nat × Value)} {st : List Value} {k n : Nat} {i x : Int32} (X : z_CX Γ G b nL cc own rm) (hk : z_kd k = 9) (hn : z_ln k = n) (e9 : z_ld M k n i = some x) (hd : decode cc pc = .ok (.baload, 1)) (pc' : Nat) (hp : pc + 1 = pc') (K : GW Γ G b cs ss M pc' lv (.int x :: st)) : GW Γ G b cs ss M pc lv (.int i :: .ref (b + k) :: st) := by
  obtain ⟨p, l, e, R, s, m, args, below, meth, c0, Q⟩ := Γ
  subst hp
  obtain ⟨hx, hb, hml, hown, hT, hK, hX, -⟩ := X
  obtain ⟨hin, rfl⟩ := z_ld_of e9
  exact fun H locs ls hW hS hl9 => va_zald (D := (G.1, G.2.1)) (cl := vwCl) (n := n) (f := M k) hx hb hK (z_WP hW) k 1 ((z_wl_get (z_lt rfl hk)).trans (by rw [z_ent_a hk (by decide), hn]; rfl)) rfl hin hd (K H locs ls hW hS hl9)
theorem r_laload {Γ : zC} {G : zG} {b nL cs ss pc : Nat} {cc : ByteArray} {own : String} {rm : Room} {M : zM} {lv : List (Nat × Value)} {st : List Value} {k n : Nat} {i x : Int32} (X : z_CX Γ G b nL cc own rm) (hk : z_kd k = 10) (hn : z_ln k = n) (e9 : z_ld M k n i = some x) (hd : decode cc pc = .ok (.laload, 1)) (pc' : Nat) (hp : pc + 1 = pc') (K : GW Γ G b cs ss M pc' lv (.long x.toInt64 :: st)) : GW Γ G b cs ss M pc lv (.int i :: .ref (b + k) :: st) := by
  obtain ⟨p, l, e, R, s, m, args, below, meth, c0, Q⟩ := Γ
  subst hp
  obtain ⟨hx, hb, hml, hown, hT, hK, hX, -⟩ := X
  obtain ⟨hin, rfl⟩ := z_ld_of e9
  exact fun H locs ls hW hS hl9 => va_lald (D := (G.1, G.2.1)) (cl := vwCl) (n := n) (f := fun j => (M k j).toInt64) hx hb hK (z_WP hW) k 2 ((z_wl_get (z_lt rfl hk)).trans (by rw [z_ent_a hk (by decide), hn]; rfl)) rfl hin hd (K H locs ls hW hS hl9)
theorem r_aaload {Γ : zC} {G : zG} {b nL cs ss pc : Nat} {cc : ByteArray} {own : String} {rm : Room} {M : zM} {lv : List (Nat × Value)} {st : List Value} {k n c r : Nat} {i : Int32} {C : String} (X : z_CX Γ G b nL cc own rm) (hk : z_kd k = c) (hc8 : Nat.blt 10 c = true) (hc : (z_tys G)[c - 8]? = some (G.2.2 c, .object C)) (hn : z_ln k = n) (e9 : z_lq c k n i = some r) (har : z_ar c b n k (M k) = (n, .inr (.inr (.inr (.inr (fun j => some (b + z_rf c k j))))))) (hd : decode cc pc = .ok (.aaload, 1)) (hlt : k < 175) (pc' : Nat) (hp : pc + 1 = pc') (K : GW Γ G b cs ss M pc' lv (.ref (b + r) :: st)) : GW Γ G b cs ss M pc lv (.int i :: .ref (b + k) :: st) := by
  obtain ⟨p, l, e, R, s, m, args, below, meth, c0, Q⟩ := Γ
  subst hp
  obtain ⟨hx, hb, hml, hown, hT, hK, hX, -⟩ := X
  obtain ⟨hin, rfl⟩ := z_lq_of e9
  have hc9 : ¬ c < 8 := by have := Nat.le_of_ble_eq_true hc8; omega
  exact fun H locs ls hW hS hl9 => va_aldq (D := (G.1, G.2.1)) (cl := vwCl) (n := n) (f := fun j => some (b + z_rf c k j)) hx hb hK (z_WP hW) k (c - 8) ((z_wl_get hlt).trans (by rw [z_ent_a hk hc9, hn, har])) hc hin hd (K H locs ls hW hS hl9)
theorem r_iastore {Γ : zC} {G : zG} {b nL cs ss pc : Nat} {cc : ByteArray} {own : String} {rm : Room} {M : zM} {lv : List (Nat × Value)} {st : List Value} {k n : Nat} {i x : Int32} {M1 : zM} (X : z_CX Γ G b nL cc own rm) (hk : z_kd k = 8) (hn : z_ln k = n) (e9 : z_sa M k n i x = some M1) (hd : decode cc pc = .ok (.iastore, 1)) (pc' : Nat) (hp : pc + 1 = pc') (K : GW Γ G b cs ss M1 pc' lv st) : GW Γ G b cs ss M pc lv (.int x :: .int i :: .ref (b + k) :: st) := by
  obtain ⟨p, l, e, R, s, m, args, below, meth, c0, Q⟩ := Γ
  subst hp
  obtain ⟨hx, hb, hml, hown, hT, hK, hX, -⟩ := X
  obtain ⟨hin, rfl⟩ := z_sa_of e9
  have hlt : k < 175 := z_lt rfl hk
  exact fun H locs ls hW hS hl9 => va_iast (D := (G.1, G.2.1)) (cl := vwCl) (n := n) (f := M k) hx hb hK (z_WP hW) z_WD hS k 0 ((z_wl_get hlt).trans (by rw [z_ent_a hk (by decide), hn]; rfl)) rfl hin hd (fun H1 locs1 hP1 _ hS1 => K H1 locs1 ls (z_Wset hlt hP1 (by rw [z_ent_a hk (by decide), z_st_same, hn]; rfl) (fun a ha => z_st_ne M _ x ha)) hS1 hl9)
theorem r_zastore {Γ : zC} {G : zG} {b nL cs ss pc : Nat} {cc : ByteArray} {own : String} {rm : Room} {M : zM} {lv : List (Nat × Value)} {st : List Value} {k n : Nat} {i x : Int32} {M1 : zM} (X : z_CX Γ G b nL cc own rm) (hk : z_kd k = 9) (hn : z_ln k = n) (e9 : z_sb M k n i x = some M1) (hd : decode cc pc = .ok (.bastore, 1)) (pc' : Nat) (hp : pc + 1 = pc') (K : GW Γ G b cs ss M1 pc' lv st) : GW Γ G b cs ss M pc lv (.int x :: .int i :: .ref (b + k) :: st) := by
  obtain ⟨p, l, e, R, s, m, args, below, meth, c0, Q⟩ := Γ
  subst hp
  obtain ⟨hx, hb, hml, hown, hT, hK, hX, -⟩ := X
  obtain ⟨hin, hnar, rfl⟩ := z_sb_of e9
  have hlt : k < 175 := z_lt rfl hk
  exact fun H locs ls hW hS hl9 => va_zast (D := (G.1, G.2.1)) (cl := vwCl) (n := n) (f := M k) hx hb hK (z_WP hW) z_WD hS k 1 ((z_wl_get hlt).trans (by rw [z_ent_a hk (by decide), hn]; rfl)) rfl hin hd (fun H1 locs1 hP1 _ hS1 => K H1 locs1 ls (z_Wset hlt hP1 (by rw [z_ent_a hk (by decide), z_st_same, hn, hnar]; rfl) (fun a ha => z_st_ne M _ x ha)) hS1 hl9)
theorem z_upL {f : Nat → Int32} {j : Nat} {x : Int32} : (fun q => (upd f j x q).toInt64) = vp_updL (fun q => (f q).toInt64) j x.toInt64 := by
  funext q
  unfold upd vp_updL
  by_cases h : q = j
  · rw [if_pos h, if_pos h]
  · rw [if_neg h, if_neg h]
theorem r_lastore {Γ : zC} {G : zG} {b nL cs ss pc : Nat} {cc : ByteArray} {own : String} {rm : Room} {M : zM} {lv : List (Nat × Value)} {st : List Value} {k n : Nat} {i x : Int32} {M1 : zM} (X : z_CX Γ G b nL cc own rm) (hk : z_kd k = 10) (hn : z_ln k = n) (e9 : z_sa M k n i x = some M1) (hd : decode cc pc = .ok (.lastore, 1)) (pc' : Nat) (hp : pc + 1 = pc') (K : GW Γ G b cs ss M1 pc' lv st) : GW Γ G b cs ss M pc lv (.long x.toInt64 :: .int i :: .ref (b + k) :: st) := by
  obtain ⟨p, l, e, R, s, m, args, below, meth, c0, Q⟩ := Γ
  subst hp
  obtain ⟨hx, hb, hml, hown, hT, hK, hX, -⟩ := X
  obtain ⟨hin, rfl⟩ := z_sa_of e9
  have hlt : k < 175 := z_lt rfl hk
  exact fun H locs ls hW hS hl9 => va_last (D := (G.1, G.2.1)) (cl := vwCl) (n := n) (f := fun j => (M k j).toInt64) hx hb hK (z_WP hW) z_WD hS k 2 ((z_wl_get hlt).trans (by rw [z_ent_a hk (by decide), hn]; rfl)) rfl hin hd (fun H1 locs1 hP1 _ hS1 => K H1 locs1 ls (z_Wset hlt hP1 (by rw [z_ent_a hk (by decide), z_st_same, hn]; show _ = Sum.inl (_, (n, Sum.inr (Sum.inl (fun q => (upd (M k) i.toNatClampNeg x q).toInt64)))); rw [z_upL]) (fun a ha => z_st_ne M _ x ha)) hS1 hl9)
theorem r_alen {Γ : zC} {G : zG} {b nL cs ss pc : Nat} {cc : ByteArray} {own : String} {rm : Room} {M : zM} {lv : List (Nat × Value)} {st : List Value} {k c n : Nat} {v : Int32} {ty : FieldType} (X : z_CX Γ G b nL cc own rm) (hk : z_kd k = c) (hc8 : Nat.blt 7 c = true) (hlt : k < 175) (hn : z_ln k = n) (hc : (z_tys G)[c - 8]? = some (G.2.2 c, ty)) (har : (z_ar c b n k (M k)).1 = n) (hv : Int32.ofNat n = v) (hd : decode cc pc = .ok (.arraylength, 1)) (pc' : Nat) (hp : pc + 1 = pc') (K : GW Γ G b cs ss M pc' lv (.int v :: st)) : GW Γ G b cs ss M pc lv (.ref (b + k) :: st) := by
  obtain ⟨p, l, e, R, s, m, args, below, meth, c0, Q⟩ := Γ
  subst hp
  obtain ⟨hx, hb, hml, hown, hT, hK, hX, -⟩ := X
  have hc9 : ¬ c < 8 := by have := Nat.le_of_ble_eq_true hc8; omega
  exact fun H locs ls hW hS hl9 => va_alen (D := (G.1, G.2.1)) (cl := vwCl) hx hb hK (z_WP hW) k (c - 8) ((z_wl_get hlt).trans (by rw [z_ent_a hk hc9, hn])) hc (by rw [har]; exact hv) hd (K H locs ls hW hS hl9)
theorem r_lconst {Γ : zC} {G : zG} {b nL cs ss pc : Nat} {cc : ByteArray} {own : String} {rm : Room} {M : zM} {lv : List (Nat × Value)} {st : List Value} {n : Fin 2} {v : Int64} (X : z_CX Γ G b nL cc own rm) (hv : Int64.ofNat (n : Nat) = v) (hd : decode cc pc = .ok (.lconst n, 1)) (pc' : Nat) (hp : pc + 1 = pc') (k : GW Γ G b cs ss M pc' lv (.long v :: st)) : GW Γ G b cs ss M pc lv (st) := by
  obtain ⟨p, l, e, R, s, m, args, below, meth, c, Q⟩ := Γ
  subst hp
  exact fun H locs ls hW hS hl => lv_lconst X.1 X.2.1 hd hv (k H locs ls hW hS hl)
end
section
/-! ===== calls and ends: a method's contract is of one answer and one world behind it ===== -/
def z_Q (v : Option Value) (B : State → Prop) (b : Nat) : Array Value → State → Outcome → State → Prop := fun _ st oc t => oc = .returned v ∧ B t ∧ va_F (fun q => b ≤ q) st t
def z_MN (l : Launch) (y : MethodName) (bytes : ByteArray) (maxL : Nat) (ret : Option FieldType) (rm : Room) (G : zG) (b : Nat) (As : List Value) (M : zM) (v : Option Value) (M1 : zM) : Prop :=
  Met l y [.code y bytes maxL ret] rm (va_Pc As (z_B G b M)) (z_Q v (fun t => z_W G b M1 t.heap) b) 0 0 (fun q => b ≤ q)
theorem z_run {p : Program} {l : Launch} {e : Env} {R : Room} {s : State} {m : MethodId} {args : Array Value} {below : List Frame} {meth : Method} {c : Code} {H : Heap} {locs : List Loc} {cs ss : Nat} {Q : State → Prop} {pc : Nat} {ls : Array Slot} {rest st0 : List Value} {a : Array Value} {G : zG} {b : Nat} {M1 : zM} {v : Option Value} (hr : va_Run p l e R s m args below meth c H locs cs ss 0 0 (F0 m pc ls st0) rest (z_Q v (fun t => z_W G b M1 t.heap) b a) (fun q => b ≤ q)) (hS : va_S (fun q => b ≤ q) s.heap H locs)
    (K : ∀ (H1 : Heap) (locs1 : List Loc), z_W G b M1 H1 → va_S (fun q => b ≤ q) s.heap H1 locs1 → W p l e R s m args below meth c H1 locs1 cs ss Q (F0 m (pc + 3) ls (v.toList ++ rest))) : W p l e R s m args below meth c H locs cs ss Q (F0 m pc ls st0) := by
  intro T hT X
  obtain ⟨v', st₀, t, T', L, h0, X', hL, e1, e2, ⟨hv, hB, hz, hk⟩, st⟩ := hr T hT X
  cases hv
  rw [h0] at hz hk
  obtain ⟨t2, a1, b1⟩ := K T'.heap (locs ++ L) (by show z_W G b _ T'.heap; rw [e1]; exact hB)
    ⟨Nat.le_trans hS.1 (by rw [e1]; exact hz), fun q h1 h2 => by rw [e1, hk q (Nat.lt_of_lt_of_le h1 hS.1) h2]; exact hS.2.1 q h1 h2, fun q hq => by
      rcases List.mem_append.mp hq with h | h
      · exact hS.2.2 q h
      · exact hL q h⟩ T' rfl X'
  exact ⟨t2, st t2 a1, b1⟩
/-- what the tables say of a method that is called -/
def z_Y (y : MethodName) (bytes : ByteArray) (maxL : Nat) (ret : Option FieldType) (n : Nat) : Prop := (y.cls ≠ "java/lang/invoke/MethodHandle" ∧ y.cls ≠ "java/lang/invoke/VarHandle" ∧ (parseMethodDescriptor y.desc).map (fun d => d.parameters.length) = some n) ∧ Cond.initialized y.cls ∈ z_TB ∧ Cond.code y bytes maxL ret ∈ z_TB
def z_YV (y : MethodName) : Prop := Cond.instanceMethod y ∈ z_TB ∧ Cond.selects y.cls y y ∈ z_TB
theorem z_Y1 {y : MethodName} {bytes : ByteArray} {maxL : Nat} {ret : Option FieldType} (h : Cond.code y bytes maxL ret ∈ z_TB) : GoodIn z_TB [.code y bytes maxL ret] := by
  intro w hw
  rw [List.mem_singleton.mp hw]
  exact ⟨h, good_of_word rfl⟩
theorem z_recv {G : zG} {b : Nat} {M : zM} {s : State} {H : Heap} {k c N : Nat} {C : String} {T : u_T} (hK : z_K G s) (hW : z_W G b M H) (hk : z_kd k = c) (hc8 : Nat.blt c 8 = true) (hc : vwCl[c]? = some (C, T, N)) : ∃ cell : Cell, H[b + k]? = some cell ∧ cell.vm.isStatics = false ∧ s.vm.findClass C = some cell.cls := by
  have hc9 : c < 8 := Nat.le_of_ble_eq_true hc8
  have hlt : k < 175 := z_lt (by cases h9 : (c == 99) with | false => rfl | true => rw [beq_iff_eq.mp h9] at hc9; omega) hk
  exact va_recv (q := (C, T, N)) hK (z_WP hW) hc ((z_wl_get hlt).trans (by rw [z_ent_o hk hc9]))
theorem r_callVN {Γ : zC} {G : zG} {b nL cs ss pc : Nat} {cc : ByteArray} {own : String} {rm : Room} {M : zM} {lv : List (Nat × Value)} {st : List Value} {M1 : zM} {rest : List Value} {idx k c maxL n N : Nat} {C host : String} {T : u_T} {y : MethodName} {bytes : ByteArray} {ret : Option FieldType} {rm1 : Room} {As : List Value} {v : Option Value} (X : z_CX Γ G b nL cc own rm) (hM : z_MN Γ.2.1 y bytes maxL ret rm1 G b (.ref (b + k) :: As) M v M1) (hY : z_Y y bytes maxL ret n) (hV : z_YV y) (hl : Cond.methodLinkNest own idx y host ∈ z_TB) (hk : z_kd k = c) (hc8 : Nat.blt c 8 = true) (hc : vwCl[c]? = some (C, T, N)) (hC : y.cls = C) (hr0 : rm1.cells = 0 ∧ rm1.slots = 0) (hR : (rm1.frames + 1).ble rm.frames = true ∧ (8 + (maxL + 11) + rm1.locals).ble rm.locals = true) (hst : st = As.reverse ++ .ref (b + k) :: rest) (hn : As.length = n) (hrs : (rest.map fun v => v.category).sum ≤ 8) (hro : cs ≤ rm.cells ∧ ss ≤ rm.slots) (hd : decode cc pc = .ok (.invokevirtual idx, 3)) (pc' : Nat) (hp : pc + 3 = pc') (st' : List Value) (hst' : v.toList ++ rest = st') (K : GW Γ G b cs ss M1 pc' lv st') : GW Γ G b cs ss M pc lv st := by
  subst hst'
  obtain ⟨p, l, e, R, s, m, args, below, meth, c0, Q⟩ := Γ
  subst hp
  obtain ⟨hx, hb, hml, hown, hT, hK, hX, hRm, -⟩ := X
  intro H locs ls hW hS hl9
  have hsz : ls.size = nL := hl9.1.trans hml
  refine z_run (va_runVN (cc := cc) (nL := nL) (C := C) (As := As) (rest := rest) ⟨hx, hb, hml, hown, fun w (hw : w ∈ z_TB) => hT.use hw⟩ hM ⟨va_cnB n (fun w (hw : w ∈ z_TB) => hT.use hw) (z_Y1 hY.2.2) rfl hr0.1 hr0.2 (va_Nw.of rfl (hT.use (args := #[]) hl)) (hT.use hY.2.1) hY.1 (by rw [hRm]; exact ⟨Nat.le_of_ble_eq_true hR.1, Nat.le_of_ble_eq_true hR.2⟩), hT.use hV.1, by rw [← hC]; exact hT.use hV.2⟩ ⟨z_blind, z_recv hK hW hk hc8 hc, fun U hU hw => ⟨rfl, z_pre hT hK hX hW hS hU hw⟩⟩ rfl hn hsz hst (lv_room hrs) hd (by rw [hRm]; exact hro)) hS (fun H1 locs1 hW1 hS1 => K H1 locs1 ls hW1 hS1 hl9)
theorem r_callV {Γ : zC} {G : zG} {b nL cs ss pc : Nat} {cc : ByteArray} {own : String} {rm : Room} {M : zM} {lv : List (Nat × Value)} {st : List Value} {M1 : zM} {rest : List Value} {idx k c maxL n N : Nat} {C : String} {T : u_T} {y : MethodName} {bytes : ByteArray} {ret : Option FieldType} {rm1 : Room} {As : List Value} {v : Option Value} (X : z_CX Γ G b nL cc own rm) (hM : z_MN Γ.2.1 y bytes maxL ret rm1 G b (.ref (b + k) :: As) M v M1) (hY : z_Y y bytes maxL ret n) (hV : z_YV y) (hl : Cond.methodLink own idx y ∈ z_TB) (hk : z_kd k = c) (hc8 : Nat.blt c 8 = true) (hc : vwCl[c]? = some (C, T, N)) (hC : y.cls = C) (hr0 : rm1.cells = 0 ∧ rm1.slots = 0) (hR : (rm1.frames + 1).ble rm.frames = true ∧ (8 + (maxL + 11) + rm1.locals).ble rm.locals = true) (hst : st = As.reverse ++ .ref (b + k) :: rest) (hn : As.length = n) (hrs : (rest.map fun v => v.category).sum ≤ 8) (hro : cs ≤ rm.cells ∧ ss ≤ rm.slots) (hd : decode cc pc = .ok (.invokevirtual idx, 3)) (pc' : Nat) (hp : pc + 3 = pc') (st' : List Value) (hst' : v.toList ++ rest = st') (K : GW Γ G b cs ss M1 pc' lv st') : GW Γ G b cs ss M pc lv st := by
  subst hst'
  obtain ⟨p, l, e, R, s, m, args, below, meth, c0, Q⟩ := Γ
  subst hp
  obtain ⟨hx, hb, hml, hown, hT, hK, hX, hRm, -⟩ := X
  intro H locs ls hW hS hl9
  have hsz : ls.size = nL := hl9.1.trans hml
  have hG : GoodIn z_TB (wsV own idx C y [.code y bytes maxL ret]) := by
    intro w hw
    simp only [wsV, List.cons_append, List.nil_append, List.mem_cons, List.not_mem_nil, or_false] at hw
    rcases hw with rfl | rfl | rfl | rfl | rfl
    · exact ⟨hl, good_of_word rfl⟩
    · exact ⟨hV.1, good_of_word rfl⟩
    · exact ⟨by rw [← hC]; exact hV.2, good_of_word rfl⟩
    · exact ⟨by rw [← hC]; exact hY.2.1, good_of_word rfl⟩
    · exact ⟨hY.2.2, good_of_word rfl⟩
  refine z_run (va_runV (cc := cc) (nL := nL) (C := C) (As := As) (rest := rest) ⟨hx, hb, hml, hown, fun w (hw : w ∈ z_TB) => hT.use hw⟩ hM (cwV n (fun w (hw : w ∈ z_TB) => hT.use hw) hG rfl hr0.1 hr0.2 ⟨hC, hY.1⟩ (by rw [hRm]; exact ⟨Nat.le_of_ble_eq_true hR.1, Nat.le_of_ble_eq_true hR.2⟩)) ⟨z_blind, z_recv hK hW hk hc8 hc, fun U hU hw => ⟨rfl, z_pre hT hK hX hW hS hU hw⟩⟩ rfl hn hsz hst (lv_room hrs) hd (by rw [hRm]; exact hro)) hS (fun H1 locs1 hW1 hS1 => K H1 locs1 ls hW1 hS1 hl9)
theorem r_callS {Γ : zC} {G : zG} {b nL cs ss pc : Nat} {cc : ByteArray} {own : String} {rm : Room} {M : zM} {lv : List (Nat × Value)} {st : List Value} {M1 : zM} {rest : List Value} {idx maxL n : Nat} {y : MethodName} {bytes : ByteArray} {ret : Option FieldType} {rm1 : Room} {As : List Value} {v : Option Value} (X : z_CX Γ G b nL cc own rm) (hM : z_MN Γ.2.1 y bytes maxL ret rm1 G b As M v M1) (hY : z_Y y bytes maxL ret n) (hV : Cond.static y ∈ z_TB) (hl : Cond.methodLink own idx y ∈ z_TB) (hC : y.cls = own) (hr0 : rm1.cells = 0 ∧ rm1.slots = 0) (hR : (rm1.frames + 1).ble rm.frames = true ∧ (8 + (maxL + 11) + rm1.locals).ble rm.locals = true) (hst : st = As.reverse ++ rest) (hn : As.length = n) (hrs : (rest.map fun v => v.category).sum ≤ 8) (hro : cs ≤ rm.cells ∧ ss ≤ rm.slots) (hd : decode cc pc = .ok (.invokestatic idx, 3)) (pc' : Nat) (hp : pc + 3 = pc') (st' : List Value) (hst' : v.toList ++ rest = st') (K : GW Γ G b cs ss M1 pc' lv st') : GW Γ G b cs ss M pc lv st := by
  subst hst'
  obtain ⟨p, l, e, R, s, m, args, below, meth, c0, Q⟩ := Γ
  subst hp
  obtain ⟨hx, hb, hml, hown, hT, hK, hX, hRm, -⟩ := X
  intro H locs ls hW hS hl9
  have hsz : ls.size = nL := hl9.1.trans hml
  have hG : GoodIn z_TB (wsS own idx y [.code y bytes maxL ret]) := by
    intro w hw
    simp only [wsS, List.cons_append, List.nil_append, List.mem_cons, List.not_mem_nil, or_false] at hw
    rcases hw with rfl | rfl | rfl | rfl
    · exact ⟨hl, good_of_word rfl⟩
    · exact ⟨hV, good_of_word rfl⟩
    · exact ⟨by rw [← hC]; exact hY.2.1, good_of_word rfl⟩
    · exact ⟨hY.2.2, good_of_word rfl⟩
  refine z_run (va_runS (cc := cc) (nL := nL) (As := As) (rest := rest) ⟨hx, hb, hml, hown, fun w (hw : w ∈ z_TB) => hT.use hw⟩ hM (cwS n (fun w (hw : w ∈ z_TB) => hT.use hw) hG rfl hr0.1 hr0.2 ⟨hC, hY.1⟩ (by rw [hRm]; exact ⟨Nat.le_of_ble_eq_true hR.1, Nat.le_of_ble_eq_true hR.2⟩)) ⟨z_blind, fun U hU hw => ⟨rfl, z_pre hT hK hX hW hS hU hw⟩⟩ rfl hn hsz hst (lv_room hrs) hd (by rw [hRm]; exact hro)) hS (fun H1 locs1 hW1 hS1 => K H1 locs1 ls hW1 hS1 hl9)
/-- leave to end, with this answer and this world -/
def z_R (Γ : zC) (G : zG) (b : Nat) (v : Option Value) (M1 : zM) (ret : Option FieldType) : Prop := match Γ with
  | (_, _, _, _, s, _, args, below, meth, _, Q) => Q = MQ below (z_Q v (fun t => z_W G b M1 t.heap) b) args s 0 0 (fun q => b ≤ q) ∧ meth.sig.returnType = ret
theorem z_met {l : Launch} {y : MethodName} {own : String} {cc : ByteArray} {maxL : Nat} {ret : Option FieldType} {rm : Room} {G : zG} {b : Nat} {As : List Value} {M : zM} {v : Option Value} {M1 : zM} (hl : l.stackTraces = false) (hy : plainName y.cls = true) (hlen : Nat.ble (lg_sl As).length maxL = true)
    (ho : y.cls = own) (body : ∀ Γ : zC, Γ.2.1 = l → z_CX Γ G b maxL cc own rm → z_R Γ G b v M1 ret → GW Γ G b 0 0 M 0 (lv_args 0 As) []) : z_MN l y cc maxL ret rm G b As M v M1 := by
  refine Met.ofW (cc := cc) (maxL := maxL) (ret := ret) hy rfl ?_
  intro p e s m args below meth c s₁ B hml hv
  obtain ⟨rfl, hW, hK, hT, hX⟩ := hv
  have h := body (p, l, e, rm, s, m, As.toArray, below, meth, c, MQ below (z_Q v (fun t => z_W G b M1 t.heap) b) As.toArray s 0 0 (fun q => b ≤ q)) rfl ⟨B.exec, B.bytes, hml, (by rw [← ho]; exact findClass_of_methodNamed B.named), hT, hK, hX, rfl, B.notSynchronized, hl⟩ ⟨rfl, B.returns⟩
  rw [lg_entry_eq]
  exact h s.heap [] _ hW va_S.rf (by rw [show (z_c (p, l, e, rm, s, m, As.toArray, below, meth, c, MQ below (z_Q v (fun t => z_W G b M1 t.heap) b) As.toArray s 0 0 (fun q => b ≤ q))).maxLocals = maxL from hml]; exact lv_entry As (Nat.le_of_ble_eq_true hlen))
theorem r_iret {Γ : zC} {G : zG} {b nL cs ss pc : Nat} {cc : ByteArray} {own : String} {rm : Room} {M : zM} {lv : List (Nat × Value)} {st : List Value} {x : Int32} {ty : FieldType} (X : z_CX Γ G b nL cc own rm) (hR : z_R Γ G b (some (.int x)) M (some ty)) (hn : narrow ty (.int x) = .int x) (hd : decode cc pc = .ok (.ireturn, 1)) : GW Γ G b 0 0 M pc lv [.int x] := by
  obtain ⟨p, l, e, R, s, m, args, below, meth, c, Q⟩ := Γ
  obtain ⟨hx, hb, hml, hown, hT, hK, hX, hRm, hlocks, -⟩ := X
  obtain ⟨rfl, hr⟩ := hR
  exact fun H locs ls hW hS hl => W.zret hx hb hr hn (fun t ht hw => ⟨rfl, by show z_W G b _ t.heap; rw [ht]; exact hW, hS.F ht⟩) hS.2.2 hd hlocks
theorem r_vret {Γ : zC} {G : zG} {b nL cs ss pc : Nat} {cc : ByteArray} {own : String} {rm : Room} {M : zM} {lv : List (Nat × Value)} {st : List Value} (X : z_CX Γ G b nL cc own rm) (hR : z_R Γ G b none M none) (hd : decode cc pc = .ok (.return_, 1)) : GW Γ G b 0 0 M pc lv [] := by
  obtain ⟨p, l, e, R, s, m, args, below, meth, c, Q⟩ := Γ
  obtain ⟨hx, hb, hml, hown, hT, hK, hX, hRm, hlocks, -⟩ := X
  obtain ⟨rfl, hr⟩ := hR
  exact fun H locs ls hW hS hl => W.vret hx hb hr (fun t ht hw => ⟨rfl, by show z_W G b _ t.heap; rw [ht]; exact hW, hS.F ht⟩) hS.2.2 hd hlocks
theorem r_aret {Γ : zC} {G : zG} {b nL cs ss pc : Nat} {cc : ByteArray} {own : String} {rm : Room} {M : zM} {lv : List (Nat × Value)} {st : List Value} {v : Value} {C : String} (X : z_CX Γ G b nL cc own rm) (hR : z_R Γ G b (some v) M (some (.object C))) (hv : v = .null ∨ ∃ a, v = .ref a) (hd : decode cc pc = .ok (.areturn, 1)) : GW Γ G b 0 0 M pc lv [v] := by
  obtain ⟨p, l, e, R, s, m, args, below, meth, c, Q⟩ := Γ
  obtain ⟨hx, hb, hml, hown, hT, hK, hX, hRm, hlocks, -⟩ := X
  obtain ⟨rfl, hr⟩ := hR
  exact fun H locs ls hW hS hl => W.aret hx hb hr (Or.inl ⟨C, rfl⟩) hv (fun t ht hw => ⟨rfl, by show z_W G b _ t.heap; rw [ht]; exact hW, hS.F ht⟩) hS.2.2 hd hlocks
/-! ===== loops, as the functions have them ===== -/
def z_loop {σ ρ : Type} (f : σ → Option (σ ⊕ ρ)) : Nat → σ → Option ρ
  | 0, _ => none
  | n + 1, s => (f s).bind fun q => match q with
    | .inl s' => z_loop f n s'
    | .inr r => some r
theorem z_loopP {σ ρ : Type} {f : σ → Option (σ ⊕ ρ)} (P : σ → Prop) {r : ρ} (h : ∀ s q, f s = some q → (∀ s', q = .inl s' → P s') → (∀ r', q = .inr r' → r' = r) → P s) : ∀ (n : Nat) (s : σ), z_loop f n s = some r → P s := by
  intro n
  induction n with
  | zero =>
    intro s hs
    cases hs
  | succ n ih =>
    intro s hs
    obtain ⟨q, h1, h2⟩ := Option.bind_eq_some_iff.mp hs
    refine h s q h1 (fun s' e => ?_) (fun r' e => ?_)
    · subst e
      exact ih s' h2
    · subst e
      exact Option.some.inj h2
theorem z_bd {α β : Type} {o : Option α} {f : α → Option β} {r : β} (h : o.bind f = some r) : ∃ a, o = some a ∧ f a = some r := Option.bind_eq_some_iff.mp h
theorem z_it {α : Type} {c : Prop} {i : Decidable c} {a d : Option α} {r : α} (hc : c) (h : (if c then a else d) = some r) : a = some r := by
  rw [if_pos hc] at h
  exact h
theorem z_ie {α : Type} {c : Prop} {i : Decidable c} {a d : Option α} {r : α} (hc : ¬ c) (h : (if c then a else d) = some r) : d = some r := by
  rw [if_neg hc] at h
  exact h
def z_FU : Nat := 4000
def z_oc {α : Type} (q : Option Nat) (a : Option α) (f : Nat → Option α) : Option α := match q with
  | none => a
  | some x => f x
theorem z_ocn {α : Type} {a : Option α} {f : Nat → Option α} {r : α} (h : z_oc none a f = some r) : a = some r := h
theorem z_ocs {α : Type} {a : Option α} {f : Nat → Option α} {r : α} {x : Nat} (h : z_oc (some x) a f = some r) : f x = some r := h
def z_ox {τ α : Type} (o : String ⊕ τ) (g : String → Option α) (f : τ → Option α) : Option α := match o with
  | .inl E => g E
  | .inr x => f x
theorem z_oxl {τ α : Type} {g : String → Option α} {f : τ → Option α} {r : α} {E : String} (h : z_ox (.inl E) g f = some r) : g E = some r := h
theorem z_oxr {τ α : Type} {g : String → Option α} {f : τ → Option α} {r : α} {x : τ} (h : z_ox (.inr x) g f = some r) : f x = some r := h
def z_sc {ξ ρ α : Type} (z : ξ ⊕ ρ) (f : ξ → Option α) (g : ρ → Option α) : Option α := match z with
  | .inl x => f x
  | .inr r => g r
theorem z_scl {ξ ρ α : Type} {f : ξ → Option α} {g : ρ → Option α} {r : α} {x : ξ} (h : z_sc (.inl x) f g = some r) : f x = some r := h
theorem z_scr {ξ ρ α : Type} {f : ξ → Option α} {g : ρ → Option α} {r : α} {x : ρ} (h : z_sc (.inr x) f g = some r) : g x = some r := h
def z_gd {α : Type} (x c : Nat) (o : Option α) : Option α := if z_kd x = c then o else none
theorem z_gd_of {α : Type} {x c : Nat} {o : Option α} {r : α} (h : z_gd x c o = some r) : z_kd x = c ∧ o = some r := by
  unfold z_gd at h
  split at h
  · rename_i q
    exact ⟨q, h⟩
  · cases h
def z_v (b : Nat) (r : Option Nat) : Value := match r with
  | none => .null
  | some c => .ref (b + c)
def z_b2 {A1 A2 γ : Type} (o : Option (A1 × A2)) (f : A1 → A2 → Option γ) : Option γ := o.bind fun q => f q.1 q.2
theorem z_bd2 {A1 A2 γ : Type} {o : Option (A1 × A2)} {f : A1 → A2 → Option γ} {r : γ} (h : z_b2 o f = some r) : ∃ x1 x2, o = some (x1, x2) ∧ f x1 x2 = some r := by
  obtain ⟨q, h1, h2⟩ := Option.bind_eq_some_iff.mp h
  exact ⟨q.1, q.2, h1, h2⟩
def z_b3 {A1 A2 A3 γ : Type} (o : Option (A1 × A2 × A3)) (f : A1 → A2 → A3 → Option γ) : Option γ := o.bind fun q => f q.1 q.2.1 q.2.2
theorem z_bd3 {A1 A2 A3 γ : Type} {o : Option (A1 × A2 × A3)} {f : A1 → A2 → A3 → Option γ} {r : γ} (h : z_b3 o f = some r) : ∃ x1 x2 x3, o = some (x1, x2, x3) ∧ f x1 x2 x3 = some r := by
  obtain ⟨q, h1, h2⟩ := Option.bind_eq_some_iff.mp h
  exact ⟨q.1, q.2.1, q.2.2, h1, h2⟩
def z_b4 {A1 A2 A3 A4 γ : Type} (o : Option (A1 × A2 × A3 × A4)) (f : A1 → A2 → A3 → A4 → Option γ) : Option γ := o.bind fun q => f q.1 q.2.1 q.2.2.1 q.2.2.2
theorem z_bd4 {A1 A2 A3 A4 γ : Type} {o : Option (A1 × A2 × A3 × A4)} {f : A1 → A2 → A3 → A4 → Option γ} {r : γ} (h : z_b4 o f = some r) : ∃ x1 x2 x3 x4, o = some (x1, x2, x3, x4) ∧ f x1 x2 x3 x4 = some r := by
  obtain ⟨q, h1, h2⟩ := Option.bind_eq_some_iff.mp h
  exact ⟨q.1, q.2.1, q.2.2.1, q.2.2.2, h1, h2⟩
def z_b5 {A1 A2 A3 A4 A5 γ : Type} (o : Option (A1 × A2 × A3 × A4 × A5)) (f : A1 → A2 → A3 → A4 → A5 → Option γ) : Option γ := o.bind fun q => f q.1 q.2.1 q.2.2.1 q.2.2.2.1 q.2.2.2.2
theorem z_bd5 {A1 A2 A3 A4 A5 γ : Type} {o : Option (A1 × A2 × A3 × A4 × A5)} {f : A1 → A2 → A3 → A4 → A5 → Option γ} {r : γ} (h : z_b5 o f = some r) : ∃ x1 x2 x3 x4 x5, o = some (x1, x2, x3, x4, x5) ∧ f x1 x2 x3 x4 x5 = some r := by
  obtain ⟨q, h1, h2⟩ := Option.bind_eq_some_iff.mp h
  exact ⟨q.1, q.2.1, q.2.2.1, q.2.2.2.1, q.2.2.2.2, h1, h2⟩
def z_b6 {A1 A2 A3 A4 A5 A6 γ : Type} (o : Option (A1 × A2 × A3 × A4 × A5 × A6)) (f : A1 → A2 → A3 → A4 → A5 → A6 → Option γ) : Option γ := o.bind fun q => f q.1 q.2.1 q.2.2.1 q.2.2.2.1 q.2.2.2.2.1 q.2.2.2.2.2
theorem z_bd6 {A1 A2 A3 A4 A5 A6 γ : Type} {o : Option (A1 × A2 × A3 × A4 × A5 × A6)} {f : A1 → A2 → A3 → A4 → A5 → A6 → Option γ} {r : γ} (h : z_b6 o f = some r) : ∃ x1 x2 x3 x4 x5 x6, o = some (x1, x2, x3, x4, x5, x6) ∧ f x1 x2 x3 x4 x5 x6 = some r := by
  obtain ⟨q, h1, h2⟩ := Option.bind_eq_some_iff.mp h
  exact ⟨q.1, q.2.1, q.2.2.1, q.2.2.2.1, q.2.2.2.2.1, q.2.2.2.2.2, h1, h2⟩
def z_b7 {A1 A2 A3 A4 A5 A6 A7 γ : Type} (o : Option (A1 × A2 × A3 × A4 × A5 × A6 × A7)) (f : A1 → A2 → A3 → A4 → A5 → A6 → A7 → Option γ) : Option γ := o.bind fun q => f q.1 q.2.1 q.2.2.1 q.2.2.2.1 q.2.2.2.2.1 q.2.2.2.2.2.1 q.2.2.2.2.2.2
theorem z_bd7 {A1 A2 A3 A4 A5 A6 A7 γ : Type} {o : Option (A1 × A2 × A3 × A4 × A5 × A6 × A7)} {f : A1 → A2 → A3 → A4 → A5 → A6 → A7 → Option γ} {r : γ} (h : z_b7 o f = some r) : ∃ x1 x2 x3 x4 x5 x6 x7, o = some (x1, x2, x3, x4, x5, x6, x7) ∧ f x1 x2 x3 x4 x5 x6 x7 = some r := by
  obtain ⟨q, h1, h2⟩ := Option.bind_eq_some_iff.mp h
  exact ⟨q.1, q.2.1, q.2.2.1, q.2.2.2.1, q.2.2.2.2.1, q.2.2.2.2.2.1, q.2.2.2.2.2.2, h1, h2⟩
def z_b8 {A1 A2 A3 A4 A5 A6 A7 A8 γ : Type} (o : Option (A1 × A2 × A3 × A4 × A5 × A6 × A7 × A8)) (f : A1 → A2 → A3 → A4 → A5 → A6 → A7 → A8 → Option γ) : Option γ := o.bind fun q => f q.1 q.2.1 q.2.2.1 q.2.2.2.1 q.2.2.2.2.1 q.2.2.2.2.2.1 q.2.2.2.2.2.2.1 q.2.2.2.2.2.2.2
theorem z_bd8 {A1 A2 A3 A4 A5 A6 A7 A8 γ : Type} {o : Option (A1 × A2 × A3 × A4 × A5 × A6 × A7 × A8)} {f : A1 → A2 → A3 → A4 → A5 → A6 → A7 → A8 → Option γ} {r : γ} (h : z_b8 o f = some r) : ∃ x1 x2 x3 x4 x5 x6 x7 x8, o = some (x1, x2, x3, x4, x5, x6, x7, x8) ∧ f x1 x2 x3 x4 x5 x6 x7 x8 = some r := by
  obtain ⟨q, h1, h2⟩ := Option.bind_eq_some_iff.mp h
  exact ⟨q.1, q.2.1, q.2.2.1, q.2.2.2.1, q.2.2.2.2.1, q.2.2.2.2.2.1, q.2.2.2.2.2.2.1, q.2.2.2.2.2.2.2, h1, h2⟩
end
section
/-! ===== methods that throw: the outcome is known ahead: .inl the class, or .inr the answer ===== -/
abbrev zO : Type := String ⊕ Option Value
def z_mc (o : zO) : Nat := match o with
  | .inl _ => 1
  | .inr _ => 0
def z_ms (o : zO) : Nat := match o with
  | .inl _ => 6
  | .inr _ => 0
def z_rm (f lo : Nat) (o : zO) : Room := { frames := f, cells := z_mc o, slots := z_ms o, locals := lo }
def z_QR (o : zO) (B : State → Prop) (b : Nat) : Array Value → State → Outcome → State → Prop := fun _ st oc t => ∃ v, o = .inr v ∧ oc = .returned v ∧ B t ∧ va_F (fun q => b ≤ q) st t
def z_QX (o : zO) (B : State → Prop) (b : Nat) : String → State → State → Prop := fun E st t => o = .inl E ∧ B t ∧ va_F (fun q => b ≤ q) st t
def z_MX (l : Launch) (y : MethodName) (bytes : ByteArray) (maxL : Nat) (ret : Option FieldType) (f lo : Nat) (G : zG) (b : Nat) (As : List Value) (M : zM) (o : zO) (M1 : zM) : Prop :=
  vx_Met l y [.code y bytes maxL ret] (z_rm f lo o) (va_Pc As (z_B G b M)) (z_QR o (fun t => z_W G b M1 t.heap) b) (z_QX o (fun t => z_W G b M1 t.heap) b) (z_mc o) (z_ms o) (fun q => b ≤ q)
theorem z_MX_ret {l : Launch} {y : MethodName} {bytes : ByteArray} {maxL : Nat} {ret : Option FieldType} {f lo : Nat} {G : zG} {b : Nat} {As : List Value} {M : zM} {v : Option Value} {M1 : zM} (h : z_MX l y bytes maxL ret f lo G b As M (.inr v) M1) : z_MN l y bytes maxL ret { frames := f, cells := 0, slots := 0, locals := lo } G b As M v M1 := by
  intro p e h1 h2 h3 s m args below h4 h5 h6 h7
  obtain ⟨n, o, k1, k2, k3, k4⟩ := h p e h1 h2 h3 s m args below h4 h5 h6 h7
  refine ⟨n, o, k1, k2, k3, ?_⟩
  rcases k4 with ⟨⟨v', e1, e2, e3, e4⟩, L, hL, hf⟩ | ⟨q, e0, E, ce, L, ⟨e1, -⟩, -⟩
  · cases e1
    exact ⟨⟨e2, e3, e4⟩, L, hL, hf⟩
  · cases e1
def z_RX (Γ : zC) (G : zG) (b : Nat) (o : zO) (M1 : zM) (ret : Option FieldType) : Prop := match Γ with
  | (_, _, _, _, s, _, args, below, meth, c, Q) => Q = vx_MQ below (z_QR o (fun t => z_W G b M1 t.heap) b) (z_QX o (fun t => z_W G b M1 t.heap) b) args s (z_mc o) (z_ms o) (fun q => b ≤ q) ∧ meth.sig.returnType = ret ∧ ∀ x ∈ c.exceptionTable.toList, False
theorem z_metx {l : Launch} {y : MethodName} {own : String} {cc : ByteArray} {maxL : Nat} {ret : Option FieldType} {f lo : Nat} {G : zG} {b : Nat} {As : List Value} {M : zM} {o : zO} {M1 : zM} (hl : l.stackTraces = false) (hy : plainName y.cls = true) (hlen : Nat.ble (lg_sl As).length maxL = true)
    (ho : y.cls = own) (body : ∀ Γ : zC, Γ.2.1 = l → z_CX Γ G b maxL cc own (z_rm f lo o) → z_RX Γ G b o M1 ret → GW Γ G b 0 0 M 0 (lv_args 0 As) []) : z_MX l y cc maxL ret f lo G b As M o M1 := by
  refine vx_ofW (cc := cc) (maxL := maxL) (ret := ret) hy rfl ?_
  intro p e s m args below meth c s₁ B hml hno hv
  obtain ⟨rfl, hW, hK, hT, hX⟩ := hv
  have h := body (p, l, e, z_rm f lo o, s, m, As.toArray, below, meth, c, vx_MQ below (z_QR o (fun t => z_W G b M1 t.heap) b) (z_QX o (fun t => z_W G b M1 t.heap) b) As.toArray s (z_mc o) (z_ms o) (fun q => b ≤ q)) rfl ⟨B.exec, B.bytes, hml, (by rw [← ho]; exact findClass_of_methodNamed B.named), hT, hK, hX, rfl, B.notSynchronized, hl⟩ ⟨rfl, B.returns, hno⟩
  rw [lg_entry_eq]
  exact h s.heap [] _ hW va_S.rf (by rw [show (z_c (p, l, e, z_rm f lo o, s, m, As.toArray, below, meth, c, vx_MQ below (z_QR o (fun t => z_W G b M1 t.heap) b) (z_QX o (fun t => z_W G b M1 t.heap) b) As.toArray s (z_mc o) (z_ms o) (fun q => b ≤ q))).maxLocals = maxL from hml]; exact lv_entry As (Nat.le_of_ble_eq_true hlen))
theorem r_xiret {Γ : zC} {G : zG} {b nL cs ss pc : Nat} {cc : ByteArray} {own : String} {rm : Room} {M : zM} {lv : List (Nat × Value)} {st : List Value} {x : Int32} {ty : FieldType} (X : z_CX Γ G b nL cc own rm) (hR : z_RX Γ G b (.inr (some (.int x))) M (some ty)) (hn : narrow ty (.int x) = .int x) (hd : decode cc pc = .ok (.ireturn, 1)) : GW Γ G b 0 0 M pc lv [.int x] := by
  obtain ⟨p, l, e, R, s, m, args, below, meth, c, Q⟩ := Γ
  obtain ⟨hx, hb, hml, hown, hT, hK, hX, hRm, hlocks, -⟩ := X
  obtain ⟨rfl, hr, -⟩ := hR
  exact fun H locs ls hW hS hl => vx_ret (W.zret hx hb hr hn (fun t ht hw => ⟨_, rfl, rfl, by show z_W G b _ t.heap; rw [ht]; exact hW, hS.F ht⟩) hS.2.2 hd hlocks)
theorem r_xvret {Γ : zC} {G : zG} {b nL cs ss pc : Nat} {cc : ByteArray} {own : String} {rm : Room} {M : zM} {lv : List (Nat × Value)} {st : List Value} (X : z_CX Γ G b nL cc own rm) (hR : z_RX Γ G b (.inr none) M none) (hd : decode cc pc = .ok (.return_, 1)) : GW Γ G b 0 0 M pc lv [] := by
  obtain ⟨p, l, e, R, s, m, args, below, meth, c, Q⟩ := Γ
  obtain ⟨hx, hb, hml, hown, hT, hK, hX, hRm, hlocks, -⟩ := X
  obtain ⟨rfl, hr, -⟩ := hR
  exact fun H locs ls hW hS hl => vx_ret (W.vret hx hb hr (fun t ht hw => ⟨_, rfl, rfl, by show z_W G b _ t.heap; rw [ht]; exact hW, hS.F ht⟩) hS.2.2 hd hlocks)
theorem r_xaret {Γ : zC} {G : zG} {b nL cs ss pc : Nat} {cc : ByteArray} {own : String} {rm : Room} {M : zM} {lv : List (Nat × Value)} {st : List Value} {v : Value} {C : String} (X : z_CX Γ G b nL cc own rm) (hR : z_RX Γ G b (.inr (some v)) M (some (.object C))) (hv : v = .null ∨ ∃ a, v = .ref a) (hd : decode cc pc = .ok (.areturn, 1)) : GW Γ G b 0 0 M pc lv [v] := by
  obtain ⟨p, l, e, R, s, m, args, below, meth, c, Q⟩ := Γ
  obtain ⟨hx, hb, hml, hown, hT, hK, hX, hRm, hlocks, -⟩ := X
  obtain ⟨rfl, hr, -⟩ := hR
  exact fun H locs ls hW hS hl => vx_ret (W.aret hx hb hr (Or.inl ⟨C, rfl⟩) hv (fun t ht hw => ⟨_, rfl, rfl, by show z_W G b _ t.heap; rw [ht]; exact hW, hS.F ht⟩) hS.2.2 hd hlocks)
/-- a class that is thrown from Cowmeadow, by the entries that make it -/
def z_E (ik ic : Nat) (E : String) : Prop := Bundle.fit E = true ∧ Cond.classLink RX6 ik E ∈ z_TB ∧ Cond.initialized E ∈ z_TB ∧ (∀ w ∈ vx_atS RX6 ic E ["java/lang/RuntimeException", "java/lang/Exception"], w ∈ z_TB) ∧ ∀ w ∈ Cond.classLink RX6 ik E :: Cond.initialized E :: vx_atS RX6 ic E ["java/lang/RuntimeException", "java/lang/Exception"], vx_ot w = true
theorem r_throw {Γ : zC} {G : zG} {b nL cs ss pc : Nat} {cc : ByteArray} {own : String} {rm : Room} {M : zM} {lv : List (Nat × Value)} {st : List Value} {E text : String} {ik is ic f lo : Nat} {ret : Option FieldType} (X : z_CX Γ G b nL cc RX6 (z_rm f lo (.inl E))) (hR : z_RX Γ G b (.inl E) M ret) (hE : z_E ik ic E) (htx : ("Cowmeadow", is, text) ∈ z_strs) (hf : Nat.blt 5 f = true) (hlo : Nat.ble ((st.map fun v => v.category).sum + 82) lo = true) (d0 : decode cc pc = .ok (.new ik, 3)) (d3 : decode cc (pc + 3) = .ok (.dup, 1)) (d4 : decode cc (pc + 4) = .ok (.ldc is, 2)) (d6 : decode cc (pc + 6) = .ok (.invokespecial ic, 3)) (d9 : decode cc (pc + 9) = .ok (.athrow, 1)) : GW Γ G b 0 0 M pc lv st := by
  obtain ⟨p, l, e, R, s, m, args, below, meth, c, Q⟩ := Γ
  obtain ⟨hx, hb, hml, hown, hT, hK, hX, hRm, hlocks, htr⟩ := X
  obtain ⟨rfl, hr, hno⟩ := hR
  obtain ⟨hfit, e1, e2, e3, e4⟩ := hE
  obtain ⟨sa, hsa⟩ := hX.2.2.2 _ htx
  intro H locs ls hW hS hl
  refine vx_throwS (names := ["java/lang/RuntimeException", "java/lang/Exception"]) (A := fun q => b ≤ q) hx hb htr hown hfit (by decide +kernel) (hT.use e1) (hT.use e2) hsa (fun w hw => hT.use (e3 w hw)) e4 hX.2.1 hX.2.2.1 hS hl.1 d0 d3 d4 d6 d9 (fun x hx => (hno x hx).elim) (by rw [hRm]; exact Nat.le_of_ble_eq_true hf) (by rw [hRm]; exact Nat.le_of_ble_eq_true hlo) (by rw [hRm]; exact Nat.le_refl _) (by rw [hRm]; exact Nat.le_refl _) hlocks (fun t hal hz hk => ⟨rfl, hW.kept hk, ?_⟩) hS.2.2 (Nat.le_refl _) (Nat.le_refl _)
  exact ⟨Nat.le_trans hS.1 hz, fun q h1 h2 => by rw [hk q (Nat.lt_of_lt_of_le h1 hS.1)]; exact hS.2.1 q h1 h2⟩
theorem r_throww {Γ : zC} {G : zG} {b nL cs ss pc : Nat} {cc : ByteArray} {own : String} {rm : Room} {M : zM} {lv : List (Nat × Value)} {st : List Value} {E text : String} {ik is ic f lo : Nat} {ret : Option FieldType} (X : z_CX Γ G b nL cc RX6 (z_rm f lo (.inl E))) (hR : z_RX Γ G b (.inl E) M ret) (hE : z_E ik ic E) (htx : ("Cowmeadow", is, text) ∈ z_strs) (hf : Nat.blt 5 f = true) (hlo : Nat.ble ((st.map fun v => v.category).sum + 82) lo = true) (d0 : decode cc pc = .ok (.new ik, 3)) (d3 : decode cc (pc + 3) = .ok (.dup, 1)) (d4 : decode cc (pc + 4) = .ok (.ldc_w is, 3)) (d6 : decode cc (pc + 7) = .ok (.invokespecial ic, 3)) (d9 : decode cc (pc + 10) = .ok (.athrow, 1)) : GW Γ G b 0 0 M pc lv st := by
  obtain ⟨p, l, e, R, s, m, args, below, meth, c, Q⟩ := Γ
  obtain ⟨hx, hb, hml, hown, hT, hK, hX, hRm, hlocks, htr⟩ := X
  obtain ⟨rfl, hr, hno⟩ := hR
  obtain ⟨hfit, e1, e2, e3, e4⟩ := hE
  obtain ⟨sa, hsa⟩ := hX.2.2.2 _ htx
  intro H locs ls hW hS hl
  refine vx_throwSW (names := ["java/lang/RuntimeException", "java/lang/Exception"]) (A := fun q => b ≤ q) hx hb htr hown hfit (by decide +kernel) (hT.use e1) (hT.use e2) hsa (fun w hw => hT.use (e3 w hw)) e4 hX.2.1 hX.2.2.1 hS hl.1 d0 d3 d4 d6 d9 (fun x hx => (hno x hx).elim) (by rw [hRm]; exact Nat.le_of_ble_eq_true hf) (by rw [hRm]; exact Nat.le_of_ble_eq_true hlo) (by rw [hRm]; exact Nat.le_refl _) (by rw [hRm]; exact Nat.le_refl _) hlocks (fun t hal hz hk => ⟨rfl, hW.kept hk, ?_⟩) hS.2.2 (Nat.le_refl _) (Nat.le_refl _)
  exact ⟨Nat.le_trans hS.1 hz, fun q h1 h2 => by rw [hk q (Nat.lt_of_lt_of_le h1 hS.1)]; exact hS.2.1 q h1 h2⟩

/-- a call that throws, and is not caught here -/
theorem z_xrun {p : Program} {l : Launch} {e : Env} {R : Room} {s : State} {m : MethodId} {args : Array Value} {below : List Frame} {meth : Method} {c : Code} {H : Heap} {locs : List Loc} {cs ss : Nat} {Q : State → Prop} {pc mc ms mc1 ms1 : Nat} {ls : Array Slot} {rest st0 : List Value} {a : Array Value} {G : zG} {b : Nat} {M1 : zM} {E : String} {Qc : Array Value → State → Outcome → State → Prop} {XC : String → State → State → Prop} (hr : vx_Run p l e R s m args below meth c H locs cs ss mc ms (F0 m pc ls st0) rest (z_QR (.inl E) (fun t => z_W G b M1 t.heap) b a) (z_QX (.inl E) (fun t => z_W G b M1 t.heap) b) (fun q => b ≤ q)) (hS : va_S (fun q => b ≤ q) s.heap H locs)
    (K : ∀ (H1 : Heap) (locs1 : List Loc) (ce : Cell) (q9 : Addr), z_W G b M1 H1 → va_S (fun q => b ≤ q) s.heap H1 locs1 → H1[q9]? = some ce → ce.vm = .none → s.vm.findClass E = some ce.cls → vx_W p l e R s m args below meth c H1 locs1 (cs + mc) (ss + ms) Q (F0 m pc ls rest) q9) : W p l e R s m args below meth c H locs cs ss Q (F0 m pc ls st0) := by
  intro T hT X
  rcases hr T hT X with ⟨v, st₀, t, T', L, h0, X', hL, e1, e2, ⟨v', hv, -⟩, st⟩ | ⟨q, st₀, t, T', L, E', ce, h0, X', hL, e1, e2, ⟨hE, hB, hz, hk⟩, hce, hcv, hcl, st⟩
  · cases hv
  · cases hE
    rw [h0] at hz hk
    obtain ⟨t2, a1, b1⟩ := K T'.heap (locs ++ L) ce q (by show z_W G b _ T'.heap; rw [e1]; exact hB)
      ⟨Nat.le_trans hS.1 (by rw [e1]; exact hz), fun q h1 h2 => by rw [e1, hk q (Nat.lt_of_lt_of_le h1 hS.1) h2]; exact hS.2.1 q h1 h2, fun q hq => by
        rcases List.mem_append.mp hq with h | h
        · exact hS.2.2 q h
        · exact hL q h⟩ (by rw [e1]; exact hce) hcv hcl T' rfl X'
    exact ⟨t2, st.trans a1, b1⟩
theorem r_xthrV {Γ : zC} {G : zG} {b nL cs ss pc : Nat} {cc : ByteArray} {own : String} {rm : Room} {M : zM} {lv : List (Nat × Value)} {st : List Value} {M1 : zM} {rest : List Value} {idx k c maxL n N f1 lo1 f lo : Nat} {E C : String} {T : u_T} {y : MethodName} {bytes : ByteArray} {ret ret1 : Option FieldType} {As : List Value} (X : z_CX Γ G b nL cc own (z_rm f lo (.inl E))) (hR9 : z_RX Γ G b (.inl E) M1 ret) (hM : z_MX Γ.2.1 y bytes maxL ret1 f1 lo1 G b (.ref (b + k) :: As) M (.inl E) M1) (hY : z_Y y bytes maxL ret1 n) (hV : z_YV y) (hl : Cond.methodLink own idx y ∈ z_TB) (hk : z_kd k = c) (hc8 : Nat.blt c 8 = true) (hc : vwCl[c]? = some (C, T, N)) (hC : y.cls = C) (hR : (f1 + 1).ble f = true ∧ (8 + (maxL + 11) + lo1).ble lo = true) (hst : st = As.reverse ++ .ref (b + k) :: rest) (hn : As.length = n) (hrs : (rest.map fun v => v.category).sum ≤ 8) (hd : decode cc pc = .ok (.invokevirtual idx, 3)) : GW Γ G b 0 0 M pc lv st := by
  obtain ⟨p, l, e, R, s, m, args, below, meth, c0, Q⟩ := Γ
  obtain ⟨hx, hb, hml, hown, hT, hK, hX, hRm, hlocks, -⟩ := X
  obtain ⟨rfl, hr, hno⟩ := hR9
  intro H locs ls hW hS hl9
  have hsz : ls.size = nL := hl9.1.trans hml
  have hG : GoodIn z_TB (wsV own idx C y [.code y bytes maxL ret1]) := by
    intro w hw
    simp only [wsV, List.cons_append, List.nil_append, List.mem_cons, List.not_mem_nil, or_false] at hw
    rcases hw with rfl | rfl | rfl | rfl | rfl
    · exact ⟨hl, good_of_word rfl⟩
    · exact ⟨hV.1, good_of_word rfl⟩
    · exact ⟨by rw [← hC]; exact hV.2, good_of_word rfl⟩
    · exact ⟨by rw [← hC]; exact hY.2.1, good_of_word rfl⟩
    · exact ⟨hY.2.2, good_of_word rfl⟩
  exact z_xrun (Qc := z_QR (.inl E) (fun t => z_W G b M1 t.heap) b) (XC := z_QX (.inl E) (fun t => z_W G b M1 t.heap) b) (mc1 := 1) (ms1 := 6) (vx_runV (cc := cc) (nL := nL) (C := C) (As := As) (rest := rest) ⟨hx, hb, hml, hown, fun w (hw : w ∈ z_TB) => hT.use hw⟩ hM (cwV n (fun w (hw : w ∈ z_TB) => hT.use hw) hG rfl rfl rfl ⟨hC, hY.1⟩ (by rw [hRm]; exact ⟨Nat.le_of_ble_eq_true hR.1, Nat.le_of_ble_eq_true hR.2⟩)) ⟨z_blind, z_recv hK hW hk hc8 hc, fun U hU hw => ⟨rfl, z_pre hT hK hX hW hS hU hw⟩⟩ rfl hn hsz hst (lv_room hrs) hd (by rw [hRm]; exact ⟨Nat.le_refl _, Nat.le_refl _⟩)) hS (fun H1 locs1 ce q9 hW1 hS1 hce hcv hcl => vx_out (fun x hx => (hno x hx).elim) hlocks hce hcv hcl (fun t ht hal => ⟨rfl, by show z_W G b _ t.heap; rw [ht]; exact hW1, hS1.F ht⟩) hS1.2.2 (Nat.le_refl _) (Nat.le_refl _))
theorem r_xthrS {Γ : zC} {G : zG} {b nL cs ss pc : Nat} {cc : ByteArray} {own : String} {rm : Room} {M : zM} {lv : List (Nat × Value)} {st : List Value} {M1 : zM} {rest : List Value} {idx maxL n f1 lo1 f lo : Nat} {E : String} {y : MethodName} {bytes : ByteArray} {ret ret1 : Option FieldType} {As : List Value} (X : z_CX Γ G b nL cc own (z_rm f lo (.inl E))) (hR9 : z_RX Γ G b (.inl E) M1 ret) (hM : z_MX Γ.2.1 y bytes maxL ret1 f1 lo1 G b As M (.inl E) M1) (hY : z_Y y bytes maxL ret1 n) (hV : Cond.static y ∈ z_TB) (hl : Cond.methodLink own idx y ∈ z_TB) (hC : y.cls = own) (hR : (f1 + 1).ble f = true ∧ (8 + (maxL + 11) + lo1).ble lo = true) (hst : st = As.reverse ++ rest) (hn : As.length = n) (hrs : (rest.map fun v => v.category).sum ≤ 8) (hd : decode cc pc = .ok (.invokestatic idx, 3)) : GW Γ G b 0 0 M pc lv st := by
  obtain ⟨p, l, e, R, s, m, args, below, meth, c0, Q⟩ := Γ
  obtain ⟨hx, hb, hml, hown, hT, hK, hX, hRm, hlocks, -⟩ := X
  obtain ⟨rfl, hr, hno⟩ := hR9
  intro H locs ls hW hS hl9
  have hsz : ls.size = nL := hl9.1.trans hml
  have hG : GoodIn z_TB (wsS own idx y [.code y bytes maxL ret1]) := by
    intro w hw
    simp only [wsS, List.cons_append, List.nil_append, List.mem_cons, List.not_mem_nil, or_false] at hw
    rcases hw with rfl | rfl | rfl | rfl
    · exact ⟨hl, good_of_word rfl⟩
    · exact ⟨hV, good_of_word rfl⟩
    · exact ⟨by rw [← hC]; exact hY.2.1, good_of_word rfl⟩
    · exact ⟨hY.2.2, good_of_word rfl⟩
  exact z_xrun (Qc := z_QR (.inl E) (fun t => z_W G b M1 t.heap) b) (XC := z_QX (.inl E) (fun t => z_W G b M1 t.heap) b) (mc1 := 1) (ms1 := 6) (vx_runS (cc := cc) (nL := nL) (As := As) (rest := rest) ⟨hx, hb, hml, hown, fun w (hw : w ∈ z_TB) => hT.use hw⟩ hM (cwS n (fun w (hw : w ∈ z_TB) => hT.use hw) hG rfl rfl rfl ⟨hC, hY.1⟩ (by rw [hRm]; exact ⟨Nat.le_of_ble_eq_true hR.1, Nat.le_of_ble_eq_true hR.2⟩)) ⟨z_blind, fun U hU hw => ⟨rfl, z_pre hT hK hX hW hS hU hw⟩⟩ rfl hn hsz hst (lv_room hrs) hd (by rw [hRm]; exact ⟨Nat.le_refl _, Nat.le_refl _⟩)) hS (fun H1 locs1 ce q9 hW1 hS1 hce hcv hcl => vx_out (fun x hx => (hno x hx).elim) hlocks hce hcv hcl (fun t ht hal => ⟨rfl, by show z_W G b _ t.heap; rw [ht]; exact hW1, hS1.F ht⟩) hS1.2.2 (Nat.le_refl _) (Nat.le_refl _))
def z_oi (o : String ⊕ Int32) : zO := match o with
  | .inl E => .inl E
  | .inr x => .inr (some (.int x))
def z_or (b : Nat) (o : String ⊕ Nat) : zO := match o with
  | .inl E => .inl E
  | .inr x => .inr (some (.ref (b + x)))
def z_ou (o : String ⊕ Unit) : zO := match o with
  | .inl E => .inl E
  | .inr _ => .inr none
theorem zk_0_0 {k : Nat} (h : z_kd k = 0) : z_kd (k + 1) = 4 := beq_iff_eq.mp (z_all (P := fun k => z_kd (k + 1) == 4) (by decide +kernel) rfl h).2
theorem zk_1_1 {k : Nat} (h : z_kd k = 1) : z_kd (k + 1) = 8 := beq_iff_eq.mp (z_all (P := fun k => z_kd (k + 1) == 8) (by decide +kernel) rfl h).2
theorem zn_1_1 {k : Nat} (h : z_kd k = 1) : z_ln (k + 1) = 66 := beq_iff_eq.mp (z_all (P := fun k => z_ln (k + 1) == 66) (by decide +kernel) rfl h).2
theorem zk_1_2 {k : Nat} (h : z_kd k = 1) : z_kd (k + 2) = 8 := beq_iff_eq.mp (z_all (P := fun k => z_kd (k + 2) == 8) (by decide +kernel) rfl h).2
theorem zn_1_2 {k : Nat} (h : z_kd k = 1) : z_ln (k + 2) = 66 := beq_iff_eq.mp (z_all (P := fun k => z_ln (k + 2) == 66) (by decide +kernel) rfl h).2
theorem zk_1_3 {k : Nat} (h : z_kd k = 1) : z_kd (k + 3) = 9 := beq_iff_eq.mp (z_all (P := fun k => z_kd (k + 3) == 9) (by decide +kernel) rfl h).2
theorem zn_1_3 {k : Nat} (h : z_kd k = 1) : z_ln (k + 3) = 66 := beq_iff_eq.mp (z_all (P := fun k => z_ln (k + 3) == 66) (by decide +kernel) rfl h).2
theorem zk_1_5 {k : Nat} (h : z_kd k = 1) : z_kd (k + 4) = 9 := beq_iff_eq.mp (z_all (P := fun k => z_kd (k + 4) == 9) (by decide +kernel) rfl h).2
theorem zn_1_5 {k : Nat} (h : z_kd k = 1) : z_ln (k + 4) = 32 := beq_iff_eq.mp (z_all (P := fun k => z_ln (k + 4) == 32) (by decide +kernel) rfl h).2
theorem zk_2_0 {k : Nat} (h : z_kd k = 2) : z_kd (k + 1) = 4 := beq_iff_eq.mp (z_all (P := fun k => z_kd (k + 1) == 4) (by decide +kernel) rfl h).2
theorem zk_3_0 {k : Nat} (h : z_kd k = 3) : z_kd (k + 1) = 8 := beq_iff_eq.mp (z_all (P := fun k => z_kd (k + 1) == 8) (by decide +kernel) rfl h).2
theorem zn_3_0 {k : Nat} (h : z_kd k = 3) : z_ln (k + 1) = 128 := beq_iff_eq.mp (z_all (P := fun k => z_ln (k + 1) == 128) (by decide +kernel) rfl h).2
theorem zk_3_1 {k : Nat} (h : z_kd k = 3) : z_kd (k + 2) = 8 := beq_iff_eq.mp (z_all (P := fun k => z_kd (k + 2) == 8) (by decide +kernel) rfl h).2
theorem zn_3_1 {k : Nat} (h : z_kd k = 3) : z_ln (k + 2) = 128 := beq_iff_eq.mp (z_all (P := fun k => z_ln (k + 2) == 128) (by decide +kernel) rfl h).2
theorem zk_3_2 {k : Nat} (h : z_kd k = 3) : z_kd (k + 3) = 8 := beq_iff_eq.mp (z_all (P := fun k => z_kd (k + 3) == 8) (by decide +kernel) rfl h).2
theorem zn_3_2 {k : Nat} (h : z_kd k = 3) : z_ln (k + 3) = 128 := beq_iff_eq.mp (z_all (P := fun k => z_ln (k + 3) == 128) (by decide +kernel) rfl h).2
theorem zk_3_3 {k : Nat} (h : z_kd k = 3) : z_kd (k + 4) = 8 := beq_iff_eq.mp (z_all (P := fun k => z_kd (k + 4) == 8) (by decide +kernel) rfl h).2
theorem zn_3_3 {k : Nat} (h : z_kd k = 3) : z_ln (k + 4) = 128 := beq_iff_eq.mp (z_all (P := fun k => z_ln (k + 4) == 128) (by decide +kernel) rfl h).2
theorem zk_4_0 {k : Nat} (h : z_kd k = 4) : z_kd (k + 1) = 8 := beq_iff_eq.mp (z_all (P := fun k => z_kd (k + 1) == 8) (by decide +kernel) rfl h).2
theorem zn_4_0 {k : Nat} (h : z_kd k = 4) : z_ln (k + 1) = 128 := beq_iff_eq.mp (z_all (P := fun k => z_ln (k + 1) == 128) (by decide +kernel) rfl h).2
theorem zk_5_0 {k : Nat} (h : z_kd k = 5) : z_kd (k + 1) = 11 := beq_iff_eq.mp (z_all (P := fun k => z_kd (k + 1) == 11) (by decide +kernel) rfl h).2
theorem zn_5_0 {k : Nat} (h : z_kd k = 5) : z_ln (k + 1) = 6 := beq_iff_eq.mp (z_all (P := fun k => z_ln (k + 1) == 6) (by decide +kernel) rfl h).2
theorem zk_5_1 {k : Nat} (h : z_kd k = 5) : z_kd (k + 2) = 12 := beq_iff_eq.mp (z_all (P := fun k => z_kd (k + 2) == 12) (by decide +kernel) rfl h).2
theorem zn_5_1 {k : Nat} (h : z_kd k = 5) : z_ln (k + 2) = 12 := beq_iff_eq.mp (z_all (P := fun k => z_ln (k + 2) == 12) (by decide +kernel) rfl h).2
theorem zk_5_2 {k : Nat} (h : z_kd k = 5) : z_kd (k + 3) = 3 := beq_iff_eq.mp (z_all (P := fun k => z_kd (k + 3) == 3) (by decide +kernel) rfl h).2
theorem zk_5_3 {k : Nat} (h : z_kd k = 5) : z_kd (k + 8) = 13 := beq_iff_eq.mp (z_all (P := fun k => z_kd (k + 8) == 13) (by decide +kernel) rfl h).2
theorem zn_5_3 {k : Nat} (h : z_kd k = 5) : z_ln (k + 8) = 4 := beq_iff_eq.mp (z_all (P := fun k => z_ln (k + 8) == 4) (by decide +kernel) rfl h).2
theorem zk_6_0 {k : Nat} (h : z_kd k = 6) : z_kd (k + 1) = 5 := beq_iff_eq.mp (z_all (P := fun k => z_kd (k + 1) == 5) (by decide +kernel) rfl h).2
theorem zk_6_1 {k : Nat} (h : z_kd k = 6) : z_kd (k + 84) = 5 := beq_iff_eq.mp (z_all (P := fun k => z_kd (k + 84) == 5) (by decide +kernel) rfl h).2
theorem zk_6_2 {k : Nat} (h : z_kd k = 6) : z_kd (k + 167) = 8 := beq_iff_eq.mp (z_all (P := fun k => z_kd (k + 167) == 8) (by decide +kernel) rfl h).2
theorem zn_6_2 {k : Nat} (h : z_kd k = 6) : z_ln (k + 167) = 16 := beq_iff_eq.mp (z_all (P := fun k => z_ln (k + 167) == 16) (by decide +kernel) rfl h).2
theorem zk_6_3 {k : Nat} (h : z_kd k = 6) : z_kd (k + 168) = 8 := beq_iff_eq.mp (z_all (P := fun k => z_kd (k + 168) == 8) (by decide +kernel) rfl h).2
theorem zn_6_3 {k : Nat} (h : z_kd k = 6) : z_ln (k + 168) = 128 := beq_iff_eq.mp (z_all (P := fun k => z_ln (k + 168) == 128) (by decide +kernel) rfl h).2
theorem zk_7_0 {k : Nat} (h : z_kd k = 7) : z_kd (k + 1) = 8 := beq_iff_eq.mp (z_all (P := fun k => z_kd (k + 1) == 8) (by decide +kernel) rfl h).2
theorem zn_7_0 {k : Nat} (h : z_kd k = 7) : z_ln (k + 1) = 3397 := beq_iff_eq.mp (z_all (P := fun k => z_ln (k + 1) == 3397) (by decide +kernel) rfl h).2
theorem zk_7_1 {k : Nat} (h : z_kd k = 7) : z_kd (k + 2) = 8 := beq_iff_eq.mp (z_all (P := fun k => z_kd (k + 2) == 8) (by decide +kernel) rfl h).2
theorem zn_7_1 {k : Nat} (h : z_kd k = 7) : z_ln (k + 2) = 3397 := beq_iff_eq.mp (z_all (P := fun k => z_ln (k + 2) == 3397) (by decide +kernel) rfl h).2
theorem zk_7_2 {k : Nat} (h : z_kd k = 7) : z_kd (k + 3) = 8 := beq_iff_eq.mp (z_all (P := fun k => z_kd (k + 3) == 8) (by decide +kernel) rfl h).2
theorem zn_7_2 {k : Nat} (h : z_kd k = 7) : z_ln (k + 3) = 128 := beq_iff_eq.mp (z_all (P := fun k => z_ln (k + 3) == 128) (by decide +kernel) rfl h).2
theorem zk_7_3 {k : Nat} (h : z_kd k = 7) : z_kd (k + 4) = 8 := beq_iff_eq.mp (z_all (P := fun k => z_kd (k + 4) == 8) (by decide +kernel) rfl h).2
theorem zn_7_3 {k : Nat} (h : z_kd k = 7) : z_ln (k + 4) = 16 := beq_iff_eq.mp (z_all (P := fun k => z_ln (k + 4) == 16) (by decide +kernel) rfl h).2
theorem zq_11 {k r : Nat} {i : Int32} (h : z_kd k = 11) (e : z_lq 11 k 6 i = some r) : z_kd r = 0 := by
  obtain ⟨h1, h2⟩ := z_lq_of e
  have h3 := (z_all (P := fun k => (List.range 6).all fun j => z_kd (z_rf 11 k j) == 0) (by decide +kernel) rfl h).2
  have h4 : i.toNatClampNeg < 6 := Nat.not_le.mp fun q => h1 (Or.inr q)
  rw [h2]
  exact beq_iff_eq.mp (List.all_eq_true.mp h3 _ (List.mem_range.mpr h4))
theorem zq_12 {k r : Nat} {i : Int32} (h : z_kd k = 12) (e : z_lq 12 k 12 i = some r) : z_kd r = 2 := by
  obtain ⟨h1, h2⟩ := z_lq_of e
  have h3 := (z_all (P := fun k => (List.range 12).all fun j => z_kd (z_rf 12 k j) == 2) (by decide +kernel) rfl h).2
  have h4 : i.toNatClampNeg < 12 := Nat.not_le.mp fun q => h1 (Or.inr q)
  rw [h2]
  exact beq_iff_eq.mp (List.all_eq_true.mp h3 _ (List.mem_range.mpr h4))
theorem zq_13 {k r : Nat} {i : Int32} (h : z_kd k = 13) (e : z_lq 13 k 4 i = some r) : z_kd r = 1 := by
  obtain ⟨h1, h2⟩ := z_lq_of e
  have h3 := (z_all (P := fun k => (List.range 4).all fun j => z_kd (z_rf 13 k j) == 1) (by decide +kernel) rfl h).2
  have h4 : i.toNatClampNeg < 4 := Nat.not_le.mp fun q => h1 (Or.inr q)
  rw [h2]
  exact beq_iff_eq.mp (List.all_eq_true.mp h3 _ (List.mem_range.mpr h4))
end
section
/-! ===== words of the tables, by their places ===== -/
theorem zi_X0 : ∀ w ∈ u_ws RX0 TX0 3, w ∈ z_TB := by decide +kernel
theorem zv_X0 : vwCl[0]? = some (RX0, TX0, 3) := rfl
theorem zi_X1 : ∀ w ∈ u_ws RX1 TX1 6, w ∈ z_TB := by decide +kernel
theorem zv_X1 : vwCl[1]? = some (RX1, TX1, 6) := rfl
theorem zi_X2 : ∀ w ∈ u_ws RX2 TX2 6, w ∈ z_TB := by decide +kernel
theorem zv_X2 : vwCl[2]? = some (RX2, TX2, 6) := rfl
theorem zi_X3 : ∀ w ∈ u_ws RX3 TX3 4, w ∈ z_TB := by decide +kernel
theorem zv_X3 : vwCl[3]? = some (RX3, TX3, 4) := rfl
theorem zi_X4 : ∀ w ∈ u_ws RX4 TX4 1, w ∈ z_TB := by decide +kernel
theorem zv_X4 : vwCl[4]? = some (RX4, TX4, 1) := rfl
theorem zi_X5 : ∀ w ∈ u_ws RX5 TX5 7, w ∈ z_TB := by decide +kernel
theorem zv_X5 : vwCl[5]? = some (RX5, TX5, 7) := rfl
theorem zi_X6 : ∀ w ∈ u_ws RX6 TX6 4, w ∈ z_TB := by decide +kernel
theorem zv_X6 : vwCl[6]? = some (RX6, TX6, 4) := rfl
theorem zi_X7 : ∀ w ∈ u_ws RX7 TX7 5, w ∈ z_TB := by decide +kernel
theorem zv_X7 : vwCl[7]? = some (RX7, TX7, 5) := rfl
theorem km_L_114 : Cond.methodLink RL 114 yX6_init ∈ z_TB := z_in 104 (by decide +kernel) rfl
theorem km_X6_11 : Cond.methodLinkNest RX6 11 yX5_init RX6 ∈ z_TB := z_in 112 (by decide +kernel) rfl
theorem km_X5_25 : Cond.methodLinkNest RX5 25 yX3_init RX6 ∈ z_TB := z_in 122 (by decide +kernel) rfl
theorem kf_X3_9 : Cond.fieldLink RX3 9 RX3 (TX3 0).2.1 (TX3 0).2.2.1 ∈ z_TB := z_in 126 (by decide +kernel) rfl
theorem kf_X3_15 : Cond.fieldLink RX3 15 RX3 (TX3 1).2.1 (TX3 1).2.2.1 ∈ z_TB := z_in 127 (by decide +kernel) rfl
theorem kf_X3_18 : Cond.fieldLink RX3 18 RX3 (TX3 2).2.1 (TX3 2).2.2.1 ∈ z_TB := z_in 128 (by decide +kernel) rfl
theorem kf_X3_21 : Cond.fieldLink RX3 21 RX3 (TX3 3).2.1 (TX3 3).2.2.1 ∈ z_TB := z_in 129 (by decide +kernel) rfl
theorem km_X5_46 : Cond.methodLinkNest RX5 46 yX0_init RX6 ∈ z_TB := z_in 143 (by decide +kernel) rfl
theorem km_X0_11 : Cond.methodLinkNest RX0 11 yX4_init RX6 ∈ z_TB := z_in 149 (by decide +kernel) rfl
theorem km_X4_15 : Cond.methodLink RX4 15 yJ7_fill_53178 ∈ z_TB := z_in 153 (by decide +kernel) rfl
theorem kf_X4_9 : Cond.fieldLink RX4 9 RX4 (TX4 0).2.1 (TX4 0).2.2.1 ∈ z_TB := z_in 156 (by decide +kernel) rfl
theorem kf_X0_12 : Cond.fieldLink RX0 12 RX0 (TX0 0).2.1 (TX0 0).2.2.1 ∈ z_TB := z_in 160 (by decide +kernel) rfl
theorem kf_X6_30 : Cond.fieldLinkNest RX6 30 RX0 (TX0 0).2.1 (TX0 0).2.2.1 RX6 ∈ z_TB := z_in 161 (by decide +kernel) rfl
theorem kf_X5_125 : Cond.fieldLinkNest RX5 125 RX0 (TX0 0).2.1 (TX0 0).2.2.1 RX6 ∈ z_TB := z_in 162 (by decide +kernel) rfl
theorem kf_X0_22 : Cond.fieldLink RX0 22 RX0 (TX0 1).2.1 (TX0 1).2.2.1 ∈ z_TB := z_in 163 (by decide +kernel) rfl
theorem kf_X5_66 : Cond.fieldLinkNest RX5 66 RX0 (TX0 1).2.1 (TX0 1).2.2.1 RX6 ∈ z_TB := z_in 164 (by decide +kernel) rfl
theorem kf_X6_208 : Cond.fieldLinkNest RX6 208 RX0 (TX0 1).2.1 (TX0 1).2.2.1 RX6 ∈ z_TB := z_in 165 (by decide +kernel) rfl
theorem kf_X0_18 : Cond.fieldLink RX0 18 RX0 (TX0 2).2.1 (TX0 2).2.2.1 ∈ z_TB := z_in 166 (by decide +kernel) rfl
theorem kf_X5_79 : Cond.fieldLinkNest RX5 79 RX0 (TX0 2).2.1 (TX0 2).2.2.1 RX6 ∈ z_TB := z_in 167 (by decide +kernel) rfl
theorem kf_X6_185 : Cond.fieldLinkNest RX6 185 RX0 (TX0 2).2.1 (TX0 2).2.2.1 RX6 ∈ z_TB := z_in 168 (by decide +kernel) rfl
theorem km_X5_49 : Cond.methodLinkNest RX5 49 yX2_init RX6 ∈ z_TB := z_in 177 (by decide +kernel) rfl
theorem km_X2_11 : Cond.methodLinkNest RX2 11 yX4_init RX6 ∈ z_TB := z_in 182 (by decide +kernel) rfl
theorem kf_X2_12 : Cond.fieldLink RX2 12 RX2 (TX2 0).2.1 (TX2 0).2.2.1 ∈ z_TB := z_in 183 (by decide +kernel) rfl
theorem kf_X6_128 : Cond.fieldLinkNest RX6 128 RX2 (TX2 0).2.1 (TX2 0).2.2.1 RX6 ∈ z_TB := z_in 184 (by decide +kernel) rfl
theorem kf_X5_121 : Cond.fieldLinkNest RX5 121 RX2 (TX2 0).2.1 (TX2 0).2.2.1 RX6 ∈ z_TB := z_in 185 (by decide +kernel) rfl
theorem kf_X2_18 : Cond.fieldLink RX2 18 RX2 (TX2 1).2.1 (TX2 1).2.2.1 ∈ z_TB := z_in 186 (by decide +kernel) rfl
theorem kf_X5_70 : Cond.fieldLinkNest RX5 70 RX2 (TX2 1).2.1 (TX2 1).2.2.1 RX6 ∈ z_TB := z_in 187 (by decide +kernel) rfl
theorem kf_X2_22 : Cond.fieldLink RX2 22 RX2 (TX2 2).2.1 (TX2 2).2.2.1 ∈ z_TB := z_in 188 (by decide +kernel) rfl
theorem kf_X5_71 : Cond.fieldLinkNest RX5 71 RX2 (TX2 2).2.1 (TX2 2).2.2.1 RX6 ∈ z_TB := z_in 189 (by decide +kernel) rfl
theorem kf_X6_121 : Cond.fieldLinkNest RX6 121 RX2 (TX2 2).2.1 (TX2 2).2.2.1 RX6 ∈ z_TB := z_in 190 (by decide +kernel) rfl
theorem kf_X2_26 : Cond.fieldLink RX2 26 RX2 (TX2 3).2.1 (TX2 3).2.2.1 ∈ z_TB := z_in 191 (by decide +kernel) rfl
theorem kf_X5_89 : Cond.fieldLinkNest RX5 89 RX2 (TX2 3).2.1 (TX2 3).2.2.1 RX6 ∈ z_TB := z_in 192 (by decide +kernel) rfl
theorem kf_X6_132 : Cond.fieldLinkNest RX6 132 RX2 (TX2 3).2.1 (TX2 3).2.2.1 RX6 ∈ z_TB := z_in 193 (by decide +kernel) rfl
theorem kf_X2_29 : Cond.fieldLink RX2 29 RX2 (TX2 4).2.1 (TX2 4).2.2.1 ∈ z_TB := z_in 194 (by decide +kernel) rfl
theorem kf_X5_76 : Cond.fieldLinkNest RX5 76 RX2 (TX2 4).2.1 (TX2 4).2.2.1 RX6 ∈ z_TB := z_in 195 (by decide +kernel) rfl
theorem kf_X2_32 : Cond.fieldLink RX2 32 RX2 (TX2 5).2.1 (TX2 5).2.2.1 ∈ z_TB := z_in 196 (by decide +kernel) rfl
theorem kf_X6_129 : Cond.fieldLinkNest RX6 129 RX2 (TX2 5).2.1 (TX2 5).2.2.1 RX6 ∈ z_TB := z_in 197 (by decide +kernel) rfl
theorem kf_X5_118 : Cond.fieldLinkNest RX5 118 RX2 (TX2 5).2.1 (TX2 5).2.2.1 RX6 ∈ z_TB := z_in 198 (by decide +kernel) rfl
theorem km_X5_50 : Cond.methodLinkNest RX5 50 yX1_init RX6 ∈ z_TB := z_in 213 (by decide +kernel) rfl
theorem kf_X1_29 : Cond.fieldLink RX1 29 RX1 (TX1 0).2.1 (TX1 0).2.2.1 ∈ z_TB := z_in 217 (by decide +kernel) rfl
theorem kf_X1_9 : Cond.fieldLink RX1 9 RX1 (TX1 1).2.1 (TX1 1).2.2.1 ∈ z_TB := z_in 218 (by decide +kernel) rfl
theorem kf_X1_15 : Cond.fieldLink RX1 15 RX1 (TX1 2).2.1 (TX1 2).2.2.1 ∈ z_TB := z_in 219 (by decide +kernel) rfl
theorem kf_X1_18 : Cond.fieldLink RX1 18 RX1 (TX1 3).2.1 (TX1 3).2.2.1 ∈ z_TB := z_in 220 (by decide +kernel) rfl
theorem kf_X1_22 : Cond.fieldLink RX1 22 RX1 (TX1 4).2.1 (TX1 4).2.2.1 ∈ z_TB := z_in 221 (by decide +kernel) rfl
theorem kf_X6_245 : Cond.fieldLinkNest RX6 245 RX1 (TX1 4).2.1 (TX1 4).2.2.1 RX6 ∈ z_TB := z_in 222 (by decide +kernel) rfl
theorem kf_X1_26 : Cond.fieldLink RX1 26 RX1 (TX1 5).2.1 (TX1 5).2.2.1 ∈ z_TB := z_in 223 (by decide +kernel) rfl
theorem kf_X5_11 : Cond.fieldLink RX5 11 RX5 (TX5 0).2.1 (TX5 0).2.2.1 ∈ z_TB := z_in 238 (by decide +kernel) rfl
theorem kf_X5_19 : Cond.fieldLink RX5 19 RX5 (TX5 1).2.1 (TX5 1).2.2.1 ∈ z_TB := z_in 239 (by decide +kernel) rfl
theorem kf_X5_26 : Cond.fieldLink RX5 26 RX5 (TX5 2).2.1 (TX5 2).2.2.1 ∈ z_TB := z_in 240 (by decide +kernel) rfl
theorem kf_X6_46 : Cond.fieldLinkNest RX6 46 RX5 (TX5 2).2.1 (TX5 2).2.2.1 RX6 ∈ z_TB := z_in 241 (by decide +kernel) rfl
theorem kf_X5_32 : Cond.fieldLink RX5 32 RX5 (TX5 3).2.1 (TX5 3).2.2.1 ∈ z_TB := z_in 242 (by decide +kernel) rfl
theorem kf_X6_281 : Cond.fieldLinkNest RX6 281 RX5 (TX5 3).2.1 (TX5 3).2.2.1 RX6 ∈ z_TB := z_in 243 (by decide +kernel) rfl
theorem kf_X5_36 : Cond.fieldLink RX5 36 RX5 (TX5 4).2.1 (TX5 4).2.2.1 ∈ z_TB := z_in 244 (by decide +kernel) rfl
theorem kf_X6_50 : Cond.fieldLinkNest RX6 50 RX5 (TX5 4).2.1 (TX5 4).2.2.1 RX6 ∈ z_TB := z_in 245 (by decide +kernel) rfl
theorem kf_X5_40 : Cond.fieldLink RX5 40 RX5 (TX5 5).2.1 (TX5 5).2.2.1 ∈ z_TB := z_in 246 (by decide +kernel) rfl
theorem kf_X5_43 : Cond.fieldLink RX5 43 RX5 (TX5 6).2.1 (TX5 6).2.2.1 ∈ z_TB := z_in 247 (by decide +kernel) rfl
theorem kf_X6_266 : Cond.fieldLinkNest RX6 266 RX5 (TX5 6).2.1 (TX5 6).2.2.1 RX6 ∈ z_TB := z_in 248 (by decide +kernel) rfl
theorem kf_X6_12 : Cond.fieldLink RX6 12 RX6 (TX6 0).2.1 (TX6 0).2.2.1 ∈ z_TB := z_in 264 (by decide +kernel) rfl
theorem kf_X6_16 : Cond.fieldLink RX6 16 RX6 (TX6 1).2.1 (TX6 1).2.2.1 ∈ z_TB := z_in 265 (by decide +kernel) rfl
theorem kf_X6_19 : Cond.fieldLink RX6 19 RX6 (TX6 2).2.1 (TX6 2).2.2.1 ∈ z_TB := z_in 266 (by decide +kernel) rfl
theorem kf_X6_23 : Cond.fieldLink RX6 23 RX6 (TX6 3).2.1 (TX6 3).2.2.1 ∈ z_TB := z_in 267 (by decide +kernel) rfl
theorem km_L_146 : Cond.methodLink RL 146 yX6_commit ∈ z_TB := z_in 277 (by decide +kernel) rfl
theorem km_X6_105 : Cond.methodLink RX6 105 yX6_closeTransaction ∈ z_TB := z_in 281 (by decide +kernel) rfl
theorem km_X6_287 : Cond.methodLinkNest RX6 287 yX3_releasePending RX6 ∈ z_TB := z_in 285 (by decide +kernel) rfl
theorem km_X6_290 : Cond.methodLinkNest RX6 290 yX1_record RX6 ∈ z_TB := z_in 289 (by decide +kernel) rfl
theorem km_X1_36 : Cond.methodLink RX1 36 yX1_markChanges ∈ z_TB := z_in 293 (by decide +kernel) rfl
theorem km_X1_52 : Cond.methodLinkNest RX1 52 yX3_isAllocated RX6 ∈ z_TB := z_in 297 (by decide +kernel) rfl
theorem km_X3_24 : Cond.methodLink RX3 24 yX3_isBlock ∈ z_TB := z_in 301 (by decide +kernel) rfl
theorem km_X1_40 : Cond.methodLink RX1 40 yX1_appendMarkedRuns ∈ z_TB := z_in 304 (by decide +kernel) rfl
theorem km_X1_57 : Cond.methodLink RX1 57 yX1_append ∈ z_TB := z_in 308 (by decide +kernel) rfl
theorem km_X1_32 : Cond.methodLink RX1 32 yX1_isEntry ∈ z_TB := z_in 312 (by decide +kernel) rfl
theorem km_X1_44 : Cond.methodLink RX1 44 yX1_markAllocated ∈ z_TB := z_in 315 (by decide +kernel) rfl
theorem km_X1_48 : Cond.methodLink RX1 48 yX1_countMarkedRuns ∈ z_TB := z_in 319 (by decide +kernel) rfl
theorem km_X6_108 : Cond.methodLinkNest RX6 108 yX5_copyFrom RX6 ∈ z_TB := z_in 323 (by decide +kernel) rfl
theorem km_X5_53 : Cond.methodLinkNest RX5 53 yX0_copyFrom RX6 ∈ z_TB := z_in 327 (by decide +kernel) rfl
theorem km_X0_26 : Cond.methodLinkNest RX0 26 yX4_copyFrom RX6 ∈ z_TB := z_in 331 (by decide +kernel) rfl
theorem km_X5_57 : Cond.methodLinkNest RX5 57 yX2_copyFrom RX6 ∈ z_TB := z_in 338 (by decide +kernel) rfl
theorem km_X2_35 : Cond.methodLinkNest RX2 35 yX4_copyFrom RX6 ∈ z_TB := z_in 342 (by decide +kernel) rfl
theorem km_X5_60 : Cond.methodLinkNest RX5 60 yX3_copyFrom RX6 ∈ z_TB := z_in 343 (by decide +kernel) rfl
theorem km_X5_63 : Cond.methodLinkNest RX5 63 yX1_copyFrom RX6 ∈ z_TB := z_in 348 (by decide +kernel) rfl
theorem km_L_150 : Cond.methodLink RL 150 yX6_crash ∈ z_TB := z_in 352 (by decide +kernel) rfl
theorem km_L_154 : Cond.methodLink RL 154 yX6_transaction ∈ z_TB := z_in 356 (by decide +kernel) rfl
theorem km_L_189 : Cond.methodLink RL 189 yX6_datasets ∈ z_TB := z_in 360 (by decide +kernel) rfl
theorem km_X6_173 : Cond.methodLinkNest RX6 173 yX5_countDatasets RX6 ∈ z_TB := z_in 364 (by decide +kernel) rfl
theorem km_L_223 : Cond.methodLink RL 223 yX6_free ∈ z_TB := z_in 368 (by decide +kernel) rfl
theorem km_X6_231 : Cond.methodLinkNest RX6 231 yX3_count RX6 ∈ z_TB := z_in 372 (by decide +kernel) rfl
theorem km_L_227 : Cond.methodLink RL 227 yX6_pending ∈ z_TB := z_in 376 (by decide +kernel) rfl
theorem km_L_246 : Cond.methodLink RL 246 yX6_condensed ∈ z_TB := z_in 380 (by decide +kernel) rfl
theorem km_L_118 : Cond.methodLink RL 118 yL_write ∈ z_TB := z_in 384 (by decide +kernel) rfl
theorem km_L_7 : Cond.methodLink RL 7 yX6_write ∈ z_TB := z_in 389 (by decide +kernel) rfl
theorem km_X6_26 : Cond.methodLink RX6 26 yX6_datasetOrThrow ∈ z_TB := z_in 393 (by decide +kernel) rfl
theorem km_X6_193 : Cond.methodLinkNest RX6 193 yX5_findDataset RX6 ∈ z_TB := z_in 397 (by decide +kernel) rfl
theorem km_X6_36 : Cond.methodLink RX6 36 yX6_placeOrThrow ∈ z_TB := z_in 469 (by decide +kernel) rfl
theorem km_X6_40 : Cond.methodLinkNest RX6 40 yX4_blockOf RX6 ∈ z_TB := z_in 474 (by decide +kernel) rfl
theorem km_X6_54 : Cond.methodLinkNest RX6 54 yX3_bornIn RX6 ∈ z_TB := z_in 478 (by decide +kernel) rfl
theorem km_X3_28 : Cond.methodLink RX3 28 yX3_isAllocated ∈ z_TB := z_in 482 (by decide +kernel) rfl
theorem km_X6_60 : Cond.methodLinkNest RX6 60 yX3_usesOf RX6 ∈ z_TB := z_in 483 (by decide +kernel) rfl
theorem km_X6_63 : Cond.methodLinkNest RX6 63 yX3_setValue RX6 ∈ z_TB := z_in 487 (by decide +kernel) rfl
theorem km_X6_67 : Cond.methodLinkNest RX6 67 yX3_nextFreeBlock RX6 ∈ z_TB := z_in 491 (by decide +kernel) rfl
theorem km_X3_39 : Cond.methodLink RX3 39 yX3_emptiestRegion ∈ z_TB := z_in 495 (by decide +kernel) rfl
theorem km_X3_35 : Cond.methodLink RX3 35 yX3_freeInRegion ∈ z_TB := z_in 499 (by decide +kernel) rfl
theorem km_X3_31 : Cond.methodLink RX3 31 yX3_count ∈ z_TB := z_in 503 (by decide +kernel) rfl
theorem km_X6_78 : Cond.methodLinkNest RX6 78 yX3_allocate RX6 ∈ z_TB := z_in 520 (by decide +kernel) rfl
theorem km_X6_82 : Cond.methodLinkNest RX6 82 yX5_put RX6 ∈ z_TB := z_in 524 (by decide +kernel) rfl
theorem km_X5_92 : Cond.methodLinkNest RX5 92 yX4_blockOf RX6 ∈ z_TB := z_in 528 (by decide +kernel) rfl
theorem km_X5_98 : Cond.methodLinkNest RX5 98 yX3_removeUse RX6 ∈ z_TB := z_in 529 (by decide +kernel) rfl
theorem km_X5_101 : Cond.methodLinkNest RX5 101 yX3_addUse RX6 ∈ z_TB := z_in 533 (by decide +kernel) rfl
theorem km_X5_104 : Cond.methodLinkNest RX5 104 yX4_set RX6 ∈ z_TB := z_in 537 (by decide +kernel) rfl
theorem km_X6_86 : Cond.methodLinkNest RX6 86 yX5_settle RX6 ∈ z_TB := z_in 541 (by decide +kernel) rfl
theorem km_X5_112 : Cond.methodLinkNest RX5 112 yX3_retireUnused RX6 ∈ z_TB := z_in 545 (by decide +kernel) rfl
theorem km_L_128 : Cond.methodLink RL 128 yL_read ∈ z_TB := z_in 549 (by decide +kernel) rfl
theorem km_L_17 : Cond.methodLink RL 17 yX6_read ∈ z_TB := z_in 552 (by decide +kernel) rfl
theorem km_X6_89 : Cond.methodLinkNest RX6 89 yX3_valueOf RX6 ∈ z_TB := z_in 556 (by decide +kernel) rfl
theorem km_L_132 : Cond.methodLink RL 132 yL_blockAt ∈ z_TB := z_in 560 (by decide +kernel) rfl
theorem km_L_21 : Cond.methodLink RL 21 yX6_blockAt ∈ z_TB := z_in 563 (by decide +kernel) rfl
theorem km_L_135 : Cond.methodLink RL 135 yL_length ∈ z_TB := z_in 567 (by decide +kernel) rfl
theorem km_L_24 : Cond.methodLink RL 24 yX6_length ∈ z_TB := z_in 570 (by decide +kernel) rfl
theorem km_L_139 : Cond.methodLink RL 139 yL_punch ∈ z_TB := z_in 574 (by decide +kernel) rfl
theorem km_L_28 : Cond.methodLink RL 28 yX6_punch ∈ z_TB := z_in 578 (by decide +kernel) rfl
theorem km_X6_92 : Cond.methodLink RX6 92 yX6_fits ∈ z_TB := z_in 582 (by decide +kernel) rfl
theorem km_L_142 : Cond.methodLink RL 142 yL_reflink ∈ z_TB := z_in 601 (by decide +kernel) rfl
theorem km_L_33 : Cond.methodLink RL 33 yX6_reflink ∈ z_TB := z_in 604 (by decide +kernel) rfl
theorem km_X6_102 : Cond.methodLink RX6 102 yX6_take ∈ z_TB := z_in 609 (by decide +kernel) rfl
theorem km_L_158 : Cond.methodLink RL 158 yL_snapshot ∈ z_TB := z_in 613 (by decide +kernel) rfl
theorem km_L_37 : Cond.methodLink RL 37 yX6_snapshot ∈ z_TB := z_in 616 (by decide +kernel) rfl
theorem km_X6_112 : Cond.methodLinkNest RX6 112 yX5_unusedSnapshot RX6 ∈ z_TB := z_in 620 (by decide +kernel) rfl
theorem km_X6_118 : Cond.methodLinkNest RX6 118 yX5_take RX6 ∈ z_TB := z_in 625 (by decide +kernel) rfl
theorem km_X5_115 : Cond.methodLink RX5 115 yX5_snapshotsOf ∈ z_TB := z_in 629 (by decide +kernel) rfl
theorem km_X5_72 : Cond.methodLinkNest RX5 72 yX2_belongsTo RX6 ∈ z_TB := z_in 633 (by decide +kernel) rfl
theorem km_X5_126 : Cond.methodLink RX5 126 yX5_fill ∈ z_TB := z_in 637 (by decide +kernel) rfl
theorem km_X5_108 : Cond.methodLink RX5 108 yX5_put ∈ z_TB := z_in 641 (by decide +kernel) rfl
theorem km_L_162 : Cond.methodLink RL 162 yL_readSnapshot ∈ z_TB := z_in 642 (by decide +kernel) rfl
theorem km_L_41 : Cond.methodLink RL 41 yX6_readSnapshot ∈ z_TB := z_in 645 (by decide +kernel) rfl
theorem km_X6_124 : Cond.methodLink RX6 124 yX6_snapshotOrThrow ∈ z_TB := z_in 649 (by decide +kernel) rfl
theorem km_X6_188 : Cond.methodLinkNest RX6 188 yX5_findSnapshot RX6 ∈ z_TB := z_in 653 (by decide +kernel) rfl
theorem km_L_165 : Cond.methodLink RL 165 yL_blockInSnapshot ∈ z_TB := z_in 658 (by decide +kernel) rfl
theorem km_L_44 : Cond.methodLink RL 44 yX6_blockInSnapshot ∈ z_TB := z_in 661 (by decide +kernel) rfl
theorem km_L_168 : Cond.methodLink RL 168 yL_transactionOf ∈ z_TB := z_in 665 (by decide +kernel) rfl
theorem km_L_47 : Cond.methodLink RL 47 yX6_transactionOf ∈ z_TB := z_in 668 (by decide +kernel) rfl
theorem km_L_171 : Cond.methodLink RL 171 yL_datasetOf ∈ z_TB := z_in 672 (by decide +kernel) rfl
theorem km_L_50 : Cond.methodLink RL 50 yX6_datasetOf ∈ z_TB := z_in 675 (by decide +kernel) rfl
theorem km_L_174 : Cond.methodLink RL 174 yL_snapshots ∈ z_TB := z_in 679 (by decide +kernel) rfl
theorem km_L_53 : Cond.methodLink RL 53 yX6_snapshots ∈ z_TB := z_in 682 (by decide +kernel) rfl
theorem km_X6_135 : Cond.methodLinkNest RX6 135 yX5_snapshotsOf RX6 ∈ z_TB := z_in 686 (by decide +kernel) rfl
theorem km_L_177 : Cond.methodLink RL 177 yL_snapshotAt ∈ z_TB := z_in 687 (by decide +kernel) rfl
theorem km_L_56 : Cond.methodLink RL 56 yX6_snapshotAt ∈ z_TB := z_in 690 (by decide +kernel) rfl
theorem km_X6_138 : Cond.methodLinkNest RX6 138 yX5_snapshotOfRank RX6 ∈ z_TB := z_in 694 (by decide +kernel) rfl
theorem km_L_180 : Cond.methodLink RL 180 yL_destroySnapshot ∈ z_TB := z_in 699 (by decide +kernel) rfl
theorem km_L_59 : Cond.methodLink RL 59 yX6_destroySnapshot ∈ z_TB := z_in 702 (by decide +kernel) rfl
theorem km_X6_147 : Cond.methodLinkNest RX6 147 yX5_isOrigin RX6 ∈ z_TB := z_in 706 (by decide +kernel) rfl
theorem km_X6_153 : Cond.methodLinkNest RX6 153 yX5_drop RX6 ∈ z_TB := z_in 711 (by decide +kernel) rfl
theorem km_X5_82 : Cond.methodLink RX5 82 yX5_isBehind ∈ z_TB := z_in 715 (by decide +kernel) rfl
theorem km_X5_130 : Cond.methodLink RX5 130 yX5_clear ∈ z_TB := z_in 719 (by decide +kernel) rfl
theorem km_L_183 : Cond.methodLink RL 183 yL_rollback ∈ z_TB := z_in 723 (by decide +kernel) rfl
theorem km_L_62 : Cond.methodLink RL 62 yX6_rollback ∈ z_TB := z_in 726 (by decide +kernel) rfl
theorem km_X6_159 : Cond.methodLinkNest RX6 159 yX5_hasOriginBehind RX6 ∈ z_TB := z_in 731 (by decide +kernel) rfl
theorem km_X5_86 : Cond.methodLink RX5 86 yX5_isOrigin ∈ z_TB := z_in 735 (by decide +kernel) rfl
theorem km_X6_165 : Cond.methodLinkNest RX6 165 yX5_fill RX6 ∈ z_TB := z_in 737 (by decide +kernel) rfl
theorem km_X6_169 : Cond.methodLinkNest RX6 169 yX5_dropBehind RX6 ∈ z_TB := z_in 738 (by decide +kernel) rfl
theorem km_X5_134 : Cond.methodLink RX5 134 yX5_drop ∈ z_TB := z_in 742 (by decide +kernel) rfl
theorem km_L_186 : Cond.methodLink RL 186 yL_changed ∈ z_TB := z_in 743 (by decide +kernel) rfl
theorem km_L_65 : Cond.methodLink RL 65 yX6_changed ∈ z_TB := z_in 746 (by decide +kernel) rfl
theorem km_L_193 : Cond.methodLink RL 193 yL_makeClone ∈ z_TB := z_in 750 (by decide +kernel) rfl
theorem km_L_68 : Cond.methodLink RL 68 yX6_makeClone ∈ z_TB := z_in 753 (by decide +kernel) rfl
theorem km_X6_176 : Cond.methodLinkNest RX6 176 yX5_unusedDataset RX6 ∈ z_TB := z_in 757 (by decide +kernel) rfl
theorem km_X6_181 : Cond.methodLinkNest RX6 181 yX5_branch RX6 ∈ z_TB := z_in 762 (by decide +kernel) rfl
theorem km_L_196 : Cond.methodLink RL 196 yL_origin ∈ z_TB := z_in 766 (by decide +kernel) rfl
theorem km_L_71 : Cond.methodLink RL 71 yX6_origin ∈ z_TB := z_in 769 (by decide +kernel) rfl
theorem km_L_199 : Cond.methodLink RL 199 yL_promote ∈ z_TB := z_in 773 (by decide +kernel) rfl
theorem km_L_74 : Cond.methodLink RL 74 yX6_promote ∈ z_TB := z_in 776 (by decide +kernel) rfl
theorem km_X6_196 : Cond.methodLinkNest RX6 196 yX5_handOver RX6 ∈ z_TB := z_in 781 (by decide +kernel) rfl
theorem km_L_202 : Cond.methodLink RL 202 yL_destroy ∈ z_TB := z_in 785 (by decide +kernel) rfl
theorem km_L_77 : Cond.methodLink RL 77 yX6_destroy ∈ z_TB := z_in 788 (by decide +kernel) rfl
theorem km_X6_204 : Cond.methodLinkNest RX6 204 yX5_clear RX6 ∈ z_TB := z_in 794 (by decide +kernel) rfl
theorem km_L_205 : Cond.methodLink RL 205 yL_referenced ∈ z_TB := z_in 795 (by decide +kernel) rfl
theorem km_L_80 : Cond.methodLink RL 80 yX6_referenced ∈ z_TB := z_in 798 (by decide +kernel) rfl
theorem km_X6_212 : Cond.methodLink RX6 212 yX6_countUses ∈ z_TB := z_in 802 (by decide +kernel) rfl
theorem km_X6_294 : Cond.methodLink RX6 294 yJ7_fill_53178 ∈ z_TB := z_in 806 (by decide +kernel) rfl
theorem km_L_208 : Cond.methodLink RL 208 yL_unique ∈ z_TB := z_in 807 (by decide +kernel) rfl
theorem km_L_83 : Cond.methodLink RL 83 yX6_unique ∈ z_TB := z_in 810 (by decide +kernel) rfl
theorem km_X6_215 : Cond.methodLink RX6 215 yX6_countOwn ∈ z_TB := z_in 814 (by decide +kernel) rfl
theorem km_L_211 : Cond.methodLink RL 211 yL_uniqueOfSnapshot ∈ z_TB := z_in 818 (by decide +kernel) rfl
theorem km_L_86 : Cond.methodLink RL 86 yX6_uniqueOfSnapshot ∈ z_TB := z_in 821 (by decide +kernel) rfl
theorem km_L_214 : Cond.methodLink RL 214 yL_newer ∈ z_TB := z_in 825 (by decide +kernel) rfl
theorem km_L_89 : Cond.methodLink RL 89 yX6_newer ∈ z_TB := z_in 828 (by decide +kernel) rfl
theorem km_X6_219 : Cond.methodLinkNest RX6 219 yX3_birthOf RX6 ∈ z_TB := z_in 832 (by decide +kernel) rfl
theorem km_L_217 : Cond.methodLink RL 217 yL_birth ∈ z_TB := z_in 836 (by decide +kernel) rfl
theorem km_L_92 : Cond.methodLink RL 92 yX6_birth ∈ z_TB := z_in 839 (by decide +kernel) rfl
theorem km_X6_222 : Cond.methodLink RX6 222 yX6_blockOrThrow ∈ z_TB := z_in 843 (by decide +kernel) rfl
theorem km_X6_226 : Cond.methodLinkNest RX6 226 yX3_isAllocated RX6 ∈ z_TB := z_in 847 (by decide +kernel) rfl
theorem km_L_220 : Cond.methodLink RL 220 yL_references ∈ z_TB := z_in 849 (by decide +kernel) rfl
theorem km_L_95 : Cond.methodLink RL 95 yX6_references ∈ z_TB := z_in 852 (by decide +kernel) rfl
theorem km_L_231 : Cond.methodLink RL 231 yL_freeIn ∈ z_TB := z_in 856 (by decide +kernel) rfl
theorem km_L_98 : Cond.methodLink RL 98 yX6_freeIn ∈ z_TB := z_in 859 (by decide +kernel) rfl
theorem km_X6_235 : Cond.methodLink RX6 235 yX6_regionOrThrow ∈ z_TB := z_in 863 (by decide +kernel) rfl
theorem km_X6_238 : Cond.methodLinkNest RX6 238 yX3_freeInRegion RX6 ∈ z_TB := z_in 867 (by decide +kernel) rfl
theorem km_L_234 : Cond.methodLink RL 234 yL_logEntries ∈ z_TB := z_in 868 (by decide +kernel) rfl
theorem km_L_101 : Cond.methodLink RL 101 yX6_logEntries ∈ z_TB := z_in 871 (by decide +kernel) rfl
theorem km_X6_241 : Cond.methodLink RX6 241 yX6_logOrThrow ∈ z_TB := z_in 875 (by decide +kernel) rfl
theorem km_L_237 : Cond.methodLink RL 237 yL_runAt ∈ z_TB := z_in 879 (by decide +kernel) rfl
theorem km_L_104 : Cond.methodLink RL 104 yX6_runAt ∈ z_TB := z_in 882 (by decide +kernel) rfl
theorem km_X6_250 : Cond.methodLink RX6 250 yX6_logWithEntryOrThrow ∈ z_TB := z_in 886 (by decide +kernel) rfl
theorem km_X6_254 : Cond.methodLinkNest RX6 254 yX1_firstOf RX6 ∈ z_TB := z_in 891 (by decide +kernel) rfl
theorem km_X6_257 : Cond.methodLinkNest RX6 257 yX1_blocksOf RX6 ∈ z_TB := z_in 895 (by decide +kernel) rfl
theorem km_L_240 : Cond.methodLink RL 240 yL_allocates ∈ z_TB := z_in 899 (by decide +kernel) rfl
theorem km_L_107 : Cond.methodLink RL 107 yX6_allocates ∈ z_TB := z_in 902 (by decide +kernel) rfl
theorem km_X6_260 : Cond.methodLinkNest RX6 260 yX1_isAllocation RX6 ∈ z_TB := z_in 906 (by decide +kernel) rfl
theorem km_L_243 : Cond.methodLink RL 243 yL_replay ∈ z_TB := z_in 910 (by decide +kernel) rfl
theorem km_L_111 : Cond.methodLink RL 111 yX6_replay ∈ z_TB := z_in 913 (by decide +kernel) rfl
theorem km_X6_263 : Cond.methodLinkNest RX6 263 yX1_countReplayed RX6 ∈ z_TB := z_in 917 (by decide +kernel) rfl
theorem km_X1_61 : Cond.methodLink RX1 61 yX1_replayEntry ∈ z_TB := z_in 921 (by decide +kernel) rfl
theorem km_X1_65 : Cond.methodLink RX1 65 yX1_firstOf ∈ z_TB := z_in 925 (by decide +kernel) rfl
theorem km_X1_69 : Cond.methodLink RX1 69 yX1_blocksOf ∈ z_TB := z_in 926 (by decide +kernel) rfl
theorem km_X1_72 : Cond.methodLink RX1 72 yX1_isAllocation ∈ z_TB := z_in 927 (by decide +kernel) rfl
theorem km_L_117 : Cond.methodLink RL 117 yX7_init ∈ z_TB := z_in 930 (by decide +kernel) rfl
theorem kf_X7_7 : Cond.fieldLink RX7 7 RX7 (TX7 0).2.1 (TX7 0).2.2.1 ∈ z_TB := z_in 934 (by decide +kernel) rfl
theorem kf_X7_13 : Cond.fieldLink RX7 13 RX7 (TX7 1).2.1 (TX7 1).2.2.1 ∈ z_TB := z_in 935 (by decide +kernel) rfl
theorem kf_X7_16 : Cond.fieldLink RX7 16 RX7 (TX7 2).2.1 (TX7 2).2.2.1 ∈ z_TB := z_in 936 (by decide +kernel) rfl
theorem kf_X7_19 : Cond.fieldLink RX7 19 RX7 (TX7 3).2.1 (TX7 3).2.2.1 ∈ z_TB := z_in 937 (by decide +kernel) rfl
theorem kf_X7_22 : Cond.fieldLink RX7 22 RX7 (TX7 4).2.1 (TX7 4).2.2.1 ∈ z_TB := z_in 938 (by decide +kernel) rfl
theorem km_L_124 : Cond.methodLink RL 124 yX7_thrown ∈ z_TB := z_in 950 (by decide +kernel) rfl
theorem km_L_123 : Cond.methodLink RL 123 yX7_write ∈ z_TB := z_in 954 (by decide +kernel) rfl
theorem km_X7_41 : Cond.methodLink RX7 41 yX7_isSet ∈ z_TB := z_in 958 (by decide +kernel) rfl
theorem km_X7_26 : Cond.methodLink RX7 26 yX7_in ∈ z_TB := z_in 962 (by decide +kernel) rfl
theorem km_X7_44 : Cond.methodLink RX7 44 yX7_isSpot ∈ z_TB := z_in 965 (by decide +kernel) rfl
theorem km_X7_30 : Cond.methodLink RX7 30 yX7_isFile ∈ z_TB := z_in 968 (by decide +kernel) rfl
theorem km_X7_48 : Cond.methodLink RX7 48 yX7_spot ∈ z_TB := z_in 971 (by decide +kernel) rfl
theorem km_X7_52 : Cond.methodLink RX7 52 yX7_nextFree ∈ z_TB := z_in 974 (by decide +kernel) rfl
theorem km_X7_37 : Cond.methodLink RX7 37 yX7_countFree ∈ z_TB := z_in 978 (by decide +kernel) rfl
theorem km_X7_34 : Cond.methodLink RX7 34 yX7_isFree ∈ z_TB := z_in 982 (by decide +kernel) rfl
theorem km_X7_56 : Cond.methodLink RX7 56 yX7_counts ∈ z_TB := z_in 986 (by decide +kernel) rfl
theorem km_L_131 : Cond.methodLink RL 131 yX7_read ∈ z_TB := z_in 990 (by decide +kernel) rfl
theorem km_X7_63 : Cond.methodLink RX7 63 yX7_isKnown ∈ z_TB := z_in 994 (by decide +kernel) rfl
theorem km_X7_59 : Cond.methodLink RX7 59 yX7_fits ∈ z_TB := z_in 998 (by decide +kernel) rfl
theorem km_X7_66 : Cond.methodLink RX7 66 yX7_valueAt ∈ z_TB := z_in 1002 (by decide +kernel) rfl
theorem km_L_134 : Cond.methodLink RL 134 yX7_blockAt ∈ z_TB := z_in 1006 (by decide +kernel) rfl
theorem km_L_138 : Cond.methodLink RL 138 yX7_length ∈ z_TB := z_in 1010 (by decide +kernel) rfl
theorem km_L_141 : Cond.methodLink RL 141 yX7_punch ∈ z_TB := z_in 1014 (by decide +kernel) rfl
theorem km_L_145 : Cond.methodLink RL 145 yX7_reflink ∈ z_TB := z_in 1018 (by decide +kernel) rfl
theorem km_L_149 : Cond.methodLink RL 149 yX7_commit ∈ z_TB := z_in 1022 (by decide +kernel) rfl
theorem km_X7_80 : Cond.methodLink RX7 80 yX7_commits ∈ z_TB := z_in 1026 (by decide +kernel) rfl
theorem km_X7_76 : Cond.methodLink RX7 76 yX7_runs ∈ z_TB := z_in 1030 (by decide +kernel) rfl
theorem km_X7_73 : Cond.methodLink RX7 73 yX7_isLogged ∈ z_TB := z_in 1034 (by decide +kernel) rfl
theorem km_X7_70 : Cond.methodLink RX7 70 yX7_isAllocated ∈ z_TB := z_in 1038 (by decide +kernel) rfl
theorem km_L_153 : Cond.methodLink RL 153 yX7_crash ∈ z_TB := z_in 1042 (by decide +kernel) rfl
theorem km_L_157 : Cond.methodLink RL 157 yX7_transaction ∈ z_TB := z_in 1046 (by decide +kernel) rfl
theorem km_L_161 : Cond.methodLink RL 161 yX7_snapshot ∈ z_TB := z_in 1050 (by decide +kernel) rfl
theorem km_L_164 : Cond.methodLink RL 164 yX7_readSnapshot ∈ z_TB := z_in 1054 (by decide +kernel) rfl
theorem km_X7_86 : Cond.methodLink RX7 86 yX7_isShot ∈ z_TB := z_in 1058 (by decide +kernel) rfl
theorem km_X7_83 : Cond.methodLink RX7 83 yX7_slotOf ∈ z_TB := z_in 1062 (by decide +kernel) rfl
theorem km_X7_89 : Cond.methodLink RX7 89 yX7_inShot ∈ z_TB := z_in 1066 (by decide +kernel) rfl
theorem km_L_167 : Cond.methodLink RL 167 yX7_blockInSnapshot ∈ z_TB := z_in 1070 (by decide +kernel) rfl
theorem km_L_170 : Cond.methodLink RL 170 yX7_transactionOf ∈ z_TB := z_in 1074 (by decide +kernel) rfl
theorem km_L_173 : Cond.methodLink RL 173 yX7_datasetOf ∈ z_TB := z_in 1078 (by decide +kernel) rfl
theorem km_L_176 : Cond.methodLink RL 176 yX7_snapshots ∈ z_TB := z_in 1082 (by decide +kernel) rfl
theorem km_L_179 : Cond.methodLink RL 179 yX7_snapshotAt ∈ z_TB := z_in 1086 (by decide +kernel) rfl
theorem km_L_182 : Cond.methodLink RL 182 yX7_destroySnapshot ∈ z_TB := z_in 1090 (by decide +kernel) rfl
theorem km_X7_95 : Cond.methodLink RX7 95 yX7_isOrigin ∈ z_TB := z_in 1094 (by decide +kernel) rfl
theorem km_X7_98 : Cond.methodLink RX7 98 yX7_drops ∈ z_TB := z_in 1098 (by decide +kernel) rfl
theorem km_X7_92 : Cond.methodLink RX7 92 yX7_placeOf ∈ z_TB := z_in 1102 (by decide +kernel) rfl
theorem km_L_185 : Cond.methodLink RL 185 yX7_rollback ∈ z_TB := z_in 1106 (by decide +kernel) rfl
theorem km_L_188 : Cond.methodLink RL 188 yX7_changed ∈ z_TB := z_in 1110 (by decide +kernel) rfl
theorem km_L_192 : Cond.methodLink RL 192 yX7_datasets ∈ z_TB := z_in 1114 (by decide +kernel) rfl
theorem km_X7_102 : Cond.methodLink RX7 102 yX7_countSets ∈ z_TB := z_in 1118 (by decide +kernel) rfl
theorem km_L_195 : Cond.methodLink RL 195 yX7_makeClone ∈ z_TB := z_in 1122 (by decide +kernel) rfl
theorem km_L_198 : Cond.methodLink RL 198 yX7_origin ∈ z_TB := z_in 1126 (by decide +kernel) rfl
theorem km_L_201 : Cond.methodLink RL 201 yX7_promote ∈ z_TB := z_in 1130 (by decide +kernel) rfl
theorem km_L_204 : Cond.methodLink RL 204 yX7_destroy ∈ z_TB := z_in 1134 (by decide +kernel) rfl
theorem km_L_207 : Cond.methodLink RL 207 yX7_referenced ∈ z_TB := z_in 1138 (by decide +kernel) rfl
theorem km_X7_105 : Cond.methodLink RX7 105 yX7_blocksIn ∈ z_TB := z_in 1142 (by decide +kernel) rfl
theorem km_L_210 : Cond.methodLink RL 210 yX7_unique ∈ z_TB := z_in 1146 (by decide +kernel) rfl
theorem km_L_213 : Cond.methodLink RL 213 yX7_uniqueOfSnapshot ∈ z_TB := z_in 1150 (by decide +kernel) rfl
theorem km_L_216 : Cond.methodLink RL 216 yX7_newer ∈ z_TB := z_in 1154 (by decide +kernel) rfl
theorem km_L_219 : Cond.methodLink RL 219 yX7_birth ∈ z_TB := z_in 1158 (by decide +kernel) rfl
theorem km_L_222 : Cond.methodLink RL 222 yX7_references ∈ z_TB := z_in 1162 (by decide +kernel) rfl
theorem km_L_226 : Cond.methodLink RL 226 yX7_free ∈ z_TB := z_in 1166 (by decide +kernel) rfl
theorem km_L_230 : Cond.methodLink RL 230 yX7_pending ∈ z_TB := z_in 1170 (by decide +kernel) rfl
theorem km_L_233 : Cond.methodLink RL 233 yX7_freeIn ∈ z_TB := z_in 1174 (by decide +kernel) rfl
theorem km_X7_109 : Cond.methodLink RX7 109 yX7_isRegion ∈ z_TB := z_in 1178 (by decide +kernel) rfl
theorem km_L_236 : Cond.methodLink RL 236 yX7_logEntries ∈ z_TB := z_in 1182 (by decide +kernel) rfl
theorem km_L_239 : Cond.methodLink RL 239 yX7_runAt ∈ z_TB := z_in 1186 (by decide +kernel) rfl
theorem km_X7_112 : Cond.methodLink RX7 112 yX7_isEntry ∈ z_TB := z_in 1190 (by decide +kernel) rfl
theorem km_L_242 : Cond.methodLink RL 242 yX7_allocates ∈ z_TB := z_in 1194 (by decide +kernel) rfl
theorem km_L_245 : Cond.methodLink RL 245 yX7_replay ∈ z_TB := z_in 1198 (by decide +kernel) rfl
theorem km_L_249 : Cond.methodLink RL 249 yX7_condensed ∈ z_TB := z_in 1202 (by decide +kernel) rfl
theorem zy_X6_init : z_Y yX6_init cX6_init 1 none 0 := ⟨⟨by decide +kernel, by decide +kernel, by decide +kernel⟩, z_in 86 (by decide +kernel) rfl, z_in 106 (by decide +kernel) rfl⟩
theorem zy_X6_write : z_Y yX6_write cX6_write 9 (some .int) 4 := ⟨⟨by decide +kernel, by decide +kernel, by decide +kernel⟩, z_in 86 (by decide +kernel) rfl, z_in 392 (by decide +kernel) rfl⟩
theorem zw_X6_write : z_YV yX6_write := ⟨z_in 390 (by decide +kernel) rfl, z_in 391 (by decide +kernel) rfl⟩
theorem zy_X6_read : z_Y yX6_read cX6_read 4 (some .int) 3 := ⟨⟨by decide +kernel, by decide +kernel, by decide +kernel⟩, z_in 86 (by decide +kernel) rfl, z_in 555 (by decide +kernel) rfl⟩
theorem zw_X6_read : z_YV yX6_read := ⟨z_in 553 (by decide +kernel) rfl, z_in 554 (by decide +kernel) rfl⟩
theorem zy_X6_blockAt : z_Y yX6_blockAt cX6_blockAt 4 (some .int) 3 := ⟨⟨by decide +kernel, by decide +kernel, by decide +kernel⟩, z_in 86 (by decide +kernel) rfl, z_in 566 (by decide +kernel) rfl⟩
theorem zw_X6_blockAt : z_YV yX6_blockAt := ⟨z_in 564 (by decide +kernel) rfl, z_in 565 (by decide +kernel) rfl⟩
theorem zy_X6_length : z_Y yX6_length cX6_length 7 (some .int) 2 := ⟨⟨by decide +kernel, by decide +kernel, by decide +kernel⟩, z_in 86 (by decide +kernel) rfl, z_in 573 (by decide +kernel) rfl⟩
theorem zw_X6_length : z_YV yX6_length := ⟨z_in 571 (by decide +kernel) rfl, z_in 572 (by decide +kernel) rfl⟩
theorem zy_X6_punch : z_Y yX6_punch cX6_punch 9 (some .int) 4 := ⟨⟨by decide +kernel, by decide +kernel, by decide +kernel⟩, z_in 86 (by decide +kernel) rfl, z_in 581 (by decide +kernel) rfl⟩
theorem zw_X6_punch : z_YV yX6_punch := ⟨z_in 579 (by decide +kernel) rfl, z_in 580 (by decide +kernel) rfl⟩
theorem zy_X6_reflink : z_Y yX6_reflink cX6_reflink 12 (some .int) 6 := ⟨⟨by decide +kernel, by decide +kernel, by decide +kernel⟩, z_in 86 (by decide +kernel) rfl, z_in 607 (by decide +kernel) rfl⟩
theorem zw_X6_reflink : z_YV yX6_reflink := ⟨z_in 605 (by decide +kernel) rfl, z_in 606 (by decide +kernel) rfl⟩
theorem zy_X6_commit : z_Y yX6_commit cX6_commit 1 (some .int) 0 := ⟨⟨by decide +kernel, by decide +kernel, by decide +kernel⟩, z_in 86 (by decide +kernel) rfl, z_in 280 (by decide +kernel) rfl⟩
theorem zw_X6_commit : z_YV yX6_commit := ⟨z_in 278 (by decide +kernel) rfl, z_in 279 (by decide +kernel) rfl⟩
theorem zy_X6_crash : z_Y yX6_crash cX6_crash 1 (some .int) 0 := ⟨⟨by decide +kernel, by decide +kernel, by decide +kernel⟩, z_in 86 (by decide +kernel) rfl, z_in 355 (by decide +kernel) rfl⟩
theorem zw_X6_crash : z_YV yX6_crash := ⟨z_in 353 (by decide +kernel) rfl, z_in 354 (by decide +kernel) rfl⟩
theorem zy_X6_transaction : z_Y yX6_transaction cX6_transaction 1 (some .int) 0 := ⟨⟨by decide +kernel, by decide +kernel, by decide +kernel⟩, z_in 86 (by decide +kernel) rfl, z_in 359 (by decide +kernel) rfl⟩
theorem zw_X6_transaction : z_YV yX6_transaction := ⟨z_in 357 (by decide +kernel) rfl, z_in 358 (by decide +kernel) rfl⟩
theorem zy_X6_snapshot : z_Y yX6_snapshot cX6_snapshot 4 (some .int) 1 := ⟨⟨by decide +kernel, by decide +kernel, by decide +kernel⟩, z_in 86 (by decide +kernel) rfl, z_in 619 (by decide +kernel) rfl⟩
theorem zw_X6_snapshot : z_YV yX6_snapshot := ⟨z_in 617 (by decide +kernel) rfl, z_in 618 (by decide +kernel) rfl⟩
theorem zy_X6_readSnapshot : z_Y yX6_readSnapshot cX6_readSnapshot 4 (some .int) 3 := ⟨⟨by decide +kernel, by decide +kernel, by decide +kernel⟩, z_in 86 (by decide +kernel) rfl, z_in 648 (by decide +kernel) rfl⟩
theorem zw_X6_readSnapshot : z_YV yX6_readSnapshot := ⟨z_in 646 (by decide +kernel) rfl, z_in 647 (by decide +kernel) rfl⟩
theorem zy_X6_blockInSnapshot : z_Y yX6_blockInSnapshot cX6_blockInSnapshot 4 (some .int) 3 := ⟨⟨by decide +kernel, by decide +kernel, by decide +kernel⟩, z_in 86 (by decide +kernel) rfl, z_in 664 (by decide +kernel) rfl⟩
theorem zw_X6_blockInSnapshot : z_YV yX6_blockInSnapshot := ⟨z_in 662 (by decide +kernel) rfl, z_in 663 (by decide +kernel) rfl⟩
theorem zy_X6_transactionOf : z_Y yX6_transactionOf cX6_transactionOf 2 (some .int) 1 := ⟨⟨by decide +kernel, by decide +kernel, by decide +kernel⟩, z_in 86 (by decide +kernel) rfl, z_in 671 (by decide +kernel) rfl⟩
theorem zw_X6_transactionOf : z_YV yX6_transactionOf := ⟨z_in 669 (by decide +kernel) rfl, z_in 670 (by decide +kernel) rfl⟩
theorem zy_X6_datasetOf : z_Y yX6_datasetOf cX6_datasetOf 2 (some .int) 1 := ⟨⟨by decide +kernel, by decide +kernel, by decide +kernel⟩, z_in 86 (by decide +kernel) rfl, z_in 678 (by decide +kernel) rfl⟩
theorem zw_X6_datasetOf : z_YV yX6_datasetOf := ⟨z_in 676 (by decide +kernel) rfl, z_in 677 (by decide +kernel) rfl⟩
theorem zy_X6_snapshots : z_Y yX6_snapshots cX6_snapshots 2 (some .int) 1 := ⟨⟨by decide +kernel, by decide +kernel, by decide +kernel⟩, z_in 86 (by decide +kernel) rfl, z_in 685 (by decide +kernel) rfl⟩
theorem zw_X6_snapshots : z_YV yX6_snapshots := ⟨z_in 683 (by decide +kernel) rfl, z_in 684 (by decide +kernel) rfl⟩
theorem zy_X6_snapshotAt : z_Y yX6_snapshotAt cX6_snapshotAt 4 (some .int) 2 := ⟨⟨by decide +kernel, by decide +kernel, by decide +kernel⟩, z_in 86 (by decide +kernel) rfl, z_in 693 (by decide +kernel) rfl⟩
theorem zw_X6_snapshotAt : z_YV yX6_snapshotAt := ⟨z_in 691 (by decide +kernel) rfl, z_in 692 (by decide +kernel) rfl⟩
theorem zy_X6_destroySnapshot : z_Y yX6_destroySnapshot cX6_destroySnapshot 3 (some .int) 1 := ⟨⟨by decide +kernel, by decide +kernel, by decide +kernel⟩, z_in 86 (by decide +kernel) rfl, z_in 705 (by decide +kernel) rfl⟩
theorem zw_X6_destroySnapshot : z_YV yX6_destroySnapshot := ⟨z_in 703 (by decide +kernel) rfl, z_in 704 (by decide +kernel) rfl⟩
theorem zy_X6_rollback : z_Y yX6_rollback cX6_rollback 6 (some .int) 2 := ⟨⟨by decide +kernel, by decide +kernel, by decide +kernel⟩, z_in 86 (by decide +kernel) rfl, z_in 729 (by decide +kernel) rfl⟩
theorem zw_X6_rollback : z_YV yX6_rollback := ⟨z_in 727 (by decide +kernel) rfl, z_in 728 (by decide +kernel) rfl⟩
theorem zy_X6_changed : z_Y yX6_changed cX6_changed 7 (some .int) 2 := ⟨⟨by decide +kernel, by decide +kernel, by decide +kernel⟩, z_in 86 (by decide +kernel) rfl, z_in 749 (by decide +kernel) rfl⟩
theorem zw_X6_changed : z_YV yX6_changed := ⟨z_in 747 (by decide +kernel) rfl, z_in 748 (by decide +kernel) rfl⟩
theorem zy_X6_datasets : z_Y yX6_datasets cX6_datasets 1 (some .int) 0 := ⟨⟨by decide +kernel, by decide +kernel, by decide +kernel⟩, z_in 86 (by decide +kernel) rfl, z_in 363 (by decide +kernel) rfl⟩
theorem zw_X6_datasets : z_YV yX6_datasets := ⟨z_in 361 (by decide +kernel) rfl, z_in 362 (by decide +kernel) rfl⟩
theorem zy_X6_makeClone : z_Y yX6_makeClone cX6_makeClone 4 (some .int) 1 := ⟨⟨by decide +kernel, by decide +kernel, by decide +kernel⟩, z_in 86 (by decide +kernel) rfl, z_in 756 (by decide +kernel) rfl⟩
theorem zw_X6_makeClone : z_YV yX6_makeClone := ⟨z_in 754 (by decide +kernel) rfl, z_in 755 (by decide +kernel) rfl⟩
theorem zy_X6_origin : z_Y yX6_origin cX6_origin 2 (some .int) 1 := ⟨⟨by decide +kernel, by decide +kernel, by decide +kernel⟩, z_in 86 (by decide +kernel) rfl, z_in 772 (by decide +kernel) rfl⟩
theorem zw_X6_origin : z_YV yX6_origin := ⟨z_in 770 (by decide +kernel) rfl, z_in 771 (by decide +kernel) rfl⟩
theorem zy_X6_promote : z_Y yX6_promote cX6_promote 5 (some .int) 1 := ⟨⟨by decide +kernel, by decide +kernel, by decide +kernel⟩, z_in 86 (by decide +kernel) rfl, z_in 779 (by decide +kernel) rfl⟩
theorem zw_X6_promote : z_YV yX6_promote := ⟨z_in 777 (by decide +kernel) rfl, z_in 778 (by decide +kernel) rfl⟩
theorem zy_X6_destroy : z_Y yX6_destroy cX6_destroy 3 (some .int) 1 := ⟨⟨by decide +kernel, by decide +kernel, by decide +kernel⟩, z_in 86 (by decide +kernel) rfl, z_in 791 (by decide +kernel) rfl⟩
theorem zw_X6_destroy : z_YV yX6_destroy := ⟨z_in 789 (by decide +kernel) rfl, z_in 790 (by decide +kernel) rfl⟩
theorem zy_X6_referenced : z_Y yX6_referenced cX6_referenced 4 (some .int) 1 := ⟨⟨by decide +kernel, by decide +kernel, by decide +kernel⟩, z_in 86 (by decide +kernel) rfl, z_in 801 (by decide +kernel) rfl⟩
theorem zw_X6_referenced : z_YV yX6_referenced := ⟨z_in 799 (by decide +kernel) rfl, z_in 800 (by decide +kernel) rfl⟩
theorem zy_X6_unique : z_Y yX6_unique cX6_unique 2 (some .int) 1 := ⟨⟨by decide +kernel, by decide +kernel, by decide +kernel⟩, z_in 86 (by decide +kernel) rfl, z_in 813 (by decide +kernel) rfl⟩
theorem zw_X6_unique : z_YV yX6_unique := ⟨z_in 811 (by decide +kernel) rfl, z_in 812 (by decide +kernel) rfl⟩
theorem zy_X6_uniqueOfSnapshot : z_Y yX6_uniqueOfSnapshot cX6_uniqueOfSnapshot 2 (some .int) 1 := ⟨⟨by decide +kernel, by decide +kernel, by decide +kernel⟩, z_in 86 (by decide +kernel) rfl, z_in 824 (by decide +kernel) rfl⟩
theorem zw_X6_uniqueOfSnapshot : z_YV yX6_uniqueOfSnapshot := ⟨z_in 822 (by decide +kernel) rfl, z_in 823 (by decide +kernel) rfl⟩
theorem zy_X6_newer : z_Y yX6_newer cX6_newer 7 (some .int) 2 := ⟨⟨by decide +kernel, by decide +kernel, by decide +kernel⟩, z_in 86 (by decide +kernel) rfl, z_in 831 (by decide +kernel) rfl⟩
theorem zw_X6_newer : z_YV yX6_newer := ⟨z_in 829 (by decide +kernel) rfl, z_in 830 (by decide +kernel) rfl⟩
theorem zy_X6_birth : z_Y yX6_birth cX6_birth 2 (some .int) 1 := ⟨⟨by decide +kernel, by decide +kernel, by decide +kernel⟩, z_in 86 (by decide +kernel) rfl, z_in 842 (by decide +kernel) rfl⟩
theorem zw_X6_birth : z_YV yX6_birth := ⟨z_in 840 (by decide +kernel) rfl, z_in 841 (by decide +kernel) rfl⟩
theorem zy_X6_references : z_Y yX6_references cX6_references 2 (some .int) 1 := ⟨⟨by decide +kernel, by decide +kernel, by decide +kernel⟩, z_in 86 (by decide +kernel) rfl, z_in 855 (by decide +kernel) rfl⟩
theorem zw_X6_references : z_YV yX6_references := ⟨z_in 853 (by decide +kernel) rfl, z_in 854 (by decide +kernel) rfl⟩
theorem zy_X6_free : z_Y yX6_free cX6_free 1 (some .int) 0 := ⟨⟨by decide +kernel, by decide +kernel, by decide +kernel⟩, z_in 86 (by decide +kernel) rfl, z_in 371 (by decide +kernel) rfl⟩
theorem zw_X6_free : z_YV yX6_free := ⟨z_in 369 (by decide +kernel) rfl, z_in 370 (by decide +kernel) rfl⟩
theorem zy_X6_pending : z_Y yX6_pending cX6_pending 1 (some .int) 0 := ⟨⟨by decide +kernel, by decide +kernel, by decide +kernel⟩, z_in 86 (by decide +kernel) rfl, z_in 379 (by decide +kernel) rfl⟩
theorem zw_X6_pending : z_YV yX6_pending := ⟨z_in 377 (by decide +kernel) rfl, z_in 378 (by decide +kernel) rfl⟩
theorem zy_X6_freeIn : z_Y yX6_freeIn cX6_freeIn 2 (some .int) 1 := ⟨⟨by decide +kernel, by decide +kernel, by decide +kernel⟩, z_in 86 (by decide +kernel) rfl, z_in 862 (by decide +kernel) rfl⟩
theorem zw_X6_freeIn : z_YV yX6_freeIn := ⟨z_in 860 (by decide +kernel) rfl, z_in 861 (by decide +kernel) rfl⟩
theorem zy_X6_logEntries : z_Y yX6_logEntries cX6_logEntries 2 (some .int) 1 := ⟨⟨by decide +kernel, by decide +kernel, by decide +kernel⟩, z_in 86 (by decide +kernel) rfl, z_in 874 (by decide +kernel) rfl⟩
theorem zw_X6_logEntries : z_YV yX6_logEntries := ⟨z_in 872 (by decide +kernel) rfl, z_in 873 (by decide +kernel) rfl⟩
theorem zy_X6_runAt : z_Y yX6_runAt cX6_runAt 4 (some .int) 2 := ⟨⟨by decide +kernel, by decide +kernel, by decide +kernel⟩, z_in 86 (by decide +kernel) rfl, z_in 885 (by decide +kernel) rfl⟩
theorem zw_X6_runAt : z_YV yX6_runAt := ⟨z_in 883 (by decide +kernel) rfl, z_in 884 (by decide +kernel) rfl⟩
theorem zy_X6_allocates : z_Y yX6_allocates cX6_allocates 3 (some .boolean) 2 := ⟨⟨by decide +kernel, by decide +kernel, by decide +kernel⟩, z_in 86 (by decide +kernel) rfl, z_in 905 (by decide +kernel) rfl⟩
theorem zw_X6_allocates : z_YV yX6_allocates := ⟨z_in 903 (by decide +kernel) rfl, z_in 904 (by decide +kernel) rfl⟩
theorem zy_X6_replay : z_Y yX6_replay cX6_replay 2 (some .int) 1 := ⟨⟨by decide +kernel, by decide +kernel, by decide +kernel⟩, z_in 86 (by decide +kernel) rfl, z_in 916 (by decide +kernel) rfl⟩
theorem zw_X6_replay : z_YV yX6_replay := ⟨z_in 914 (by decide +kernel) rfl, z_in 915 (by decide +kernel) rfl⟩
theorem zy_X6_condensed : z_Y yX6_condensed cX6_condensed 1 (some .int) 0 := ⟨⟨by decide +kernel, by decide +kernel, by decide +kernel⟩, z_in 86 (by decide +kernel) rfl, z_in 383 (by decide +kernel) rfl⟩
theorem zw_X6_condensed : z_YV yX6_condensed := ⟨z_in 381 (by decide +kernel) rfl, z_in 382 (by decide +kernel) rfl⟩
theorem zy_X6_datasetOrThrow : z_Y yX6_datasetOrThrow cX6_datasetOrThrow 3 (some (.object "Cowmeadow$Dataset")) 1 := ⟨⟨by decide +kernel, by decide +kernel, by decide +kernel⟩, z_in 86 (by decide +kernel) rfl, z_in 396 (by decide +kernel) rfl⟩
theorem zw_X6_datasetOrThrow : z_YV yX6_datasetOrThrow := ⟨z_in 395 (by decide +kernel) rfl, z_in 17 (by decide +kernel) rfl⟩
theorem zy_X6_snapshotOrThrow : z_Y yX6_snapshotOrThrow cX6_snapshotOrThrow 3 (some (.object "Cowmeadow$Snapshot")) 1 := ⟨⟨by decide +kernel, by decide +kernel, by decide +kernel⟩, z_in 86 (by decide +kernel) rfl, z_in 652 (by decide +kernel) rfl⟩
theorem zw_X6_snapshotOrThrow : z_YV yX6_snapshotOrThrow := ⟨z_in 651 (by decide +kernel) rfl, z_in 41 (by decide +kernel) rfl⟩
theorem zy_X6_placeOrThrow : z_Y yX6_placeOrThrow cX6_placeOrThrow 2 (some .int) 2 := ⟨⟨by decide +kernel, by decide +kernel, by decide +kernel⟩, z_in 86 (by decide +kernel) rfl, z_in 471 (by decide +kernel) rfl⟩
theorem zs_X6_placeOrThrow : Cond.static yX6_placeOrThrow ∈ z_TB := z_in 470 (by decide +kernel) rfl
theorem zy_X6_blockOrThrow : z_Y yX6_blockOrThrow cX6_blockOrThrow 1 none 1 := ⟨⟨by decide +kernel, by decide +kernel, by decide +kernel⟩, z_in 86 (by decide +kernel) rfl, z_in 845 (by decide +kernel) rfl⟩
theorem zs_X6_blockOrThrow : Cond.static yX6_blockOrThrow ∈ z_TB := z_in 844 (by decide +kernel) rfl
theorem zy_X6_regionOrThrow : z_Y yX6_regionOrThrow cX6_regionOrThrow 1 none 1 := ⟨⟨by decide +kernel, by decide +kernel, by decide +kernel⟩, z_in 86 (by decide +kernel) rfl, z_in 865 (by decide +kernel) rfl⟩
theorem zs_X6_regionOrThrow : Cond.static yX6_regionOrThrow ∈ z_TB := z_in 864 (by decide +kernel) rfl
theorem zy_X6_logOrThrow : z_Y yX6_logOrThrow cX6_logOrThrow 2 (some (.object "Cowmeadow$Log")) 1 := ⟨⟨by decide +kernel, by decide +kernel, by decide +kernel⟩, z_in 86 (by decide +kernel) rfl, z_in 878 (by decide +kernel) rfl⟩
theorem zw_X6_logOrThrow : z_YV yX6_logOrThrow := ⟨z_in 877 (by decide +kernel) rfl, z_in 56 (by decide +kernel) rfl⟩
theorem zy_X6_logWithEntryOrThrow : z_Y yX6_logWithEntryOrThrow cX6_logWithEntryOrThrow 4 (some (.object "Cowmeadow$Log")) 2 := ⟨⟨by decide +kernel, by decide +kernel, by decide +kernel⟩, z_in 86 (by decide +kernel) rfl, z_in 889 (by decide +kernel) rfl⟩
theorem zw_X6_logWithEntryOrThrow : z_YV yX6_logWithEntryOrThrow := ⟨z_in 888 (by decide +kernel) rfl, z_in 57 (by decide +kernel) rfl⟩
theorem zy_X6_fits : z_Y yX6_fits cX6_fits 2 (some .boolean) 2 := ⟨⟨by decide +kernel, by decide +kernel, by decide +kernel⟩, z_in 86 (by decide +kernel) rfl, z_in 584 (by decide +kernel) rfl⟩
theorem zs_X6_fits : Cond.static yX6_fits ∈ z_TB := z_in 583 (by decide +kernel) rfl
theorem zy_X6_take : z_Y yX6_take cX6_take 5 none 3 := ⟨⟨by decide +kernel, by decide +kernel, by decide +kernel⟩, z_in 86 (by decide +kernel) rfl, z_in 612 (by decide +kernel) rfl⟩
theorem zw_X6_take : z_YV yX6_take := ⟨z_in 611 (by decide +kernel) rfl, z_in 35 (by decide +kernel) rfl⟩
theorem zy_X6_closeTransaction : z_Y yX6_closeTransaction cX6_closeTransaction 3 (some .int) 0 := ⟨⟨by decide +kernel, by decide +kernel, by decide +kernel⟩, z_in 86 (by decide +kernel) rfl, z_in 284 (by decide +kernel) rfl⟩
theorem zw_X6_closeTransaction : z_YV yX6_closeTransaction := ⟨z_in 283 (by decide +kernel) rfl, z_in 0 (by decide +kernel) rfl⟩
theorem zy_X6_countUses : z_Y yX6_countUses cX6_countUses 4 none 1 := ⟨⟨by decide +kernel, by decide +kernel, by decide +kernel⟩, z_in 86 (by decide +kernel) rfl, z_in 805 (by decide +kernel) rfl⟩
theorem zw_X6_countUses : z_YV yX6_countUses := ⟨z_in 804 (by decide +kernel) rfl, z_in 53 (by decide +kernel) rfl⟩
theorem zy_X6_countOwn : z_Y yX6_countOwn cX6_countOwn 4 (some .int) 1 := ⟨⟨by decide +kernel, by decide +kernel, by decide +kernel⟩, z_in 86 (by decide +kernel) rfl, z_in 817 (by decide +kernel) rfl⟩
theorem zw_X6_countOwn : z_YV yX6_countOwn := ⟨z_in 816 (by decide +kernel) rfl, z_in 54 (by decide +kernel) rfl⟩
theorem zy_X7_init : z_Y yX7_init cX7_init 2 none 0 := ⟨⟨by decide +kernel, by decide +kernel, by decide +kernel⟩, z_in 94 (by decide +kernel) rfl, z_in 932 (by decide +kernel) rfl⟩
theorem zy_X7_thrown : z_Y yX7_thrown cX7_thrown 1 (some .int) 0 := ⟨⟨by decide +kernel, by decide +kernel, by decide +kernel⟩, z_in 94 (by decide +kernel) rfl, z_in 953 (by decide +kernel) rfl⟩
theorem zw_X7_thrown : z_YV yX7_thrown := ⟨z_in 951 (by decide +kernel) rfl, z_in 952 (by decide +kernel) rfl⟩
theorem zy_X7_in : z_Y yX7_in cX7_in 3 (some .boolean) 3 := ⟨⟨by decide +kernel, by decide +kernel, by decide +kernel⟩, z_in 94 (by decide +kernel) rfl, z_in 964 (by decide +kernel) rfl⟩
theorem zs_X7_in : Cond.static yX7_in ∈ z_TB := z_in 963 (by decide +kernel) rfl
theorem zy_X7_isSet : z_Y yX7_isSet cX7_isSet 2 (some .boolean) 1 := ⟨⟨by decide +kernel, by decide +kernel, by decide +kernel⟩, z_in 94 (by decide +kernel) rfl, z_in 961 (by decide +kernel) rfl⟩
theorem zw_X7_isSet : z_YV yX7_isSet := ⟨z_in 960 (by decide +kernel) rfl, z_in 63 (by decide +kernel) rfl⟩
theorem zy_X7_isFile : z_Y yX7_isFile cX7_isFile 1 (some .boolean) 1 := ⟨⟨by decide +kernel, by decide +kernel, by decide +kernel⟩, z_in 94 (by decide +kernel) rfl, z_in 970 (by decide +kernel) rfl⟩
theorem zs_X7_isFile : Cond.static yX7_isFile ∈ z_TB := z_in 969 (by decide +kernel) rfl
theorem zy_X7_isSpot : z_Y yX7_isSpot cX7_isSpot 2 (some .boolean) 2 := ⟨⟨by decide +kernel, by decide +kernel, by decide +kernel⟩, z_in 94 (by decide +kernel) rfl, z_in 967 (by decide +kernel) rfl⟩
theorem zs_X7_isSpot : Cond.static yX7_isSpot ∈ z_TB := z_in 966 (by decide +kernel) rfl
theorem zy_X7_slotOf : z_Y yX7_slotOf cX7_slotOf 4 (some .int) 1 := ⟨⟨by decide +kernel, by decide +kernel, by decide +kernel⟩, z_in 94 (by decide +kernel) rfl, z_in 1065 (by decide +kernel) rfl⟩
theorem zw_X7_slotOf : z_YV yX7_slotOf := ⟨z_in 1064 (by decide +kernel) rfl, z_in 76 (by decide +kernel) rfl⟩
theorem zy_X7_spot : z_Y yX7_spot cX7_spot 3 (some .int) 3 := ⟨⟨by decide +kernel, by decide +kernel, by decide +kernel⟩, z_in 94 (by decide +kernel) rfl, z_in 973 (by decide +kernel) rfl⟩
theorem zs_X7_spot : Cond.static yX7_spot ∈ z_TB := z_in 972 (by decide +kernel) rfl
theorem zy_X7_fits : z_Y yX7_fits cX7_fits 3 (some .boolean) 2 := ⟨⟨by decide +kernel, by decide +kernel, by decide +kernel⟩, z_in 94 (by decide +kernel) rfl, z_in 1001 (by decide +kernel) rfl⟩
theorem zw_X7_fits : z_YV yX7_fits := ⟨z_in 1000 (by decide +kernel) rfl, z_in 69 (by decide +kernel) rfl⟩
theorem zy_X7_counts : z_Y yX7_counts cX7_counts 3 (some .int) 0 := ⟨⟨by decide +kernel, by decide +kernel, by decide +kernel⟩, z_in 94 (by decide +kernel) rfl, z_in 989 (by decide +kernel) rfl⟩
theorem zw_X7_counts : z_YV yX7_counts := ⟨z_in 988 (by decide +kernel) rfl, z_in 67 (by decide +kernel) rfl⟩
theorem zy_X7_isFree : z_Y yX7_isFree cX7_isFree 2 (some .boolean) 1 := ⟨⟨by decide +kernel, by decide +kernel, by decide +kernel⟩, z_in 94 (by decide +kernel) rfl, z_in 985 (by decide +kernel) rfl⟩
theorem zw_X7_isFree : z_YV yX7_isFree := ⟨z_in 984 (by decide +kernel) rfl, z_in 66 (by decide +kernel) rfl⟩
theorem zy_X7_countFree : z_Y yX7_countFree cX7_countFree 5 (some .int) 2 := ⟨⟨by decide +kernel, by decide +kernel, by decide +kernel⟩, z_in 94 (by decide +kernel) rfl, z_in 981 (by decide +kernel) rfl⟩
theorem zw_X7_countFree : z_YV yX7_countFree := ⟨z_in 980 (by decide +kernel) rfl, z_in 65 (by decide +kernel) rfl⟩
theorem zy_X7_nextFree : z_Y yX7_nextFree cX7_nextFree 4 (some .int) 0 := ⟨⟨by decide +kernel, by decide +kernel, by decide +kernel⟩, z_in 94 (by decide +kernel) rfl, z_in 977 (by decide +kernel) rfl⟩
theorem zw_X7_nextFree : z_YV yX7_nextFree := ⟨z_in 976 (by decide +kernel) rfl, z_in 64 (by decide +kernel) rfl⟩
theorem zy_X7_write : z_Y yX7_write cX7_write 9 (some .int) 4 := ⟨⟨by decide +kernel, by decide +kernel, by decide +kernel⟩, z_in 94 (by decide +kernel) rfl, z_in 957 (by decide +kernel) rfl⟩
theorem zw_X7_write : z_YV yX7_write := ⟨z_in 955 (by decide +kernel) rfl, z_in 956 (by decide +kernel) rfl⟩
theorem zy_X7_isKnown : z_Y yX7_isKnown cX7_isKnown 4 (some .boolean) 3 := ⟨⟨by decide +kernel, by decide +kernel, by decide +kernel⟩, z_in 94 (by decide +kernel) rfl, z_in 997 (by decide +kernel) rfl⟩
theorem zw_X7_isKnown : z_YV yX7_isKnown := ⟨z_in 996 (by decide +kernel) rfl, z_in 68 (by decide +kernel) rfl⟩
theorem zy_X7_valueAt : z_Y yX7_valueAt cX7_valueAt 2 (some .int) 1 := ⟨⟨by decide +kernel, by decide +kernel, by decide +kernel⟩, z_in 94 (by decide +kernel) rfl, z_in 1005 (by decide +kernel) rfl⟩
theorem zw_X7_valueAt : z_YV yX7_valueAt := ⟨z_in 1004 (by decide +kernel) rfl, z_in 70 (by decide +kernel) rfl⟩
theorem zy_X7_read : z_Y yX7_read cX7_read 4 (some .int) 3 := ⟨⟨by decide +kernel, by decide +kernel, by decide +kernel⟩, z_in 94 (by decide +kernel) rfl, z_in 993 (by decide +kernel) rfl⟩
theorem zw_X7_read : z_YV yX7_read := ⟨z_in 991 (by decide +kernel) rfl, z_in 992 (by decide +kernel) rfl⟩
theorem zy_X7_blockAt : z_Y yX7_blockAt cX7_blockAt 4 (some .int) 3 := ⟨⟨by decide +kernel, by decide +kernel, by decide +kernel⟩, z_in 94 (by decide +kernel) rfl, z_in 1009 (by decide +kernel) rfl⟩
theorem zw_X7_blockAt : z_YV yX7_blockAt := ⟨z_in 1007 (by decide +kernel) rfl, z_in 1008 (by decide +kernel) rfl⟩
theorem zy_X7_length : z_Y yX7_length cX7_length 6 (some .int) 2 := ⟨⟨by decide +kernel, by decide +kernel, by decide +kernel⟩, z_in 94 (by decide +kernel) rfl, z_in 1013 (by decide +kernel) rfl⟩
theorem zw_X7_length : z_YV yX7_length := ⟨z_in 1011 (by decide +kernel) rfl, z_in 1012 (by decide +kernel) rfl⟩
theorem zy_X7_punch : z_Y yX7_punch cX7_punch 8 (some .int) 4 := ⟨⟨by decide +kernel, by decide +kernel, by decide +kernel⟩, z_in 94 (by decide +kernel) rfl, z_in 1017 (by decide +kernel) rfl⟩
theorem zw_X7_punch : z_YV yX7_punch := ⟨z_in 1015 (by decide +kernel) rfl, z_in 1016 (by decide +kernel) rfl⟩
theorem zy_X7_reflink : z_Y yX7_reflink cX7_reflink 11 (some .int) 6 := ⟨⟨by decide +kernel, by decide +kernel, by decide +kernel⟩, z_in 94 (by decide +kernel) rfl, z_in 1021 (by decide +kernel) rfl⟩
theorem zw_X7_reflink : z_YV yX7_reflink := ⟨z_in 1019 (by decide +kernel) rfl, z_in 1020 (by decide +kernel) rfl⟩
theorem zy_X7_isAllocated : z_Y yX7_isAllocated cX7_isAllocated 2 (some .boolean) 1 := ⟨⟨by decide +kernel, by decide +kernel, by decide +kernel⟩, z_in 94 (by decide +kernel) rfl, z_in 1041 (by decide +kernel) rfl⟩
theorem zw_X7_isAllocated : z_YV yX7_isAllocated := ⟨z_in 1040 (by decide +kernel) rfl, z_in 74 (by decide +kernel) rfl⟩
theorem zy_X7_isLogged : z_Y yX7_isLogged cX7_isLogged 4 (some .boolean) 2 := ⟨⟨by decide +kernel, by decide +kernel, by decide +kernel⟩, z_in 94 (by decide +kernel) rfl, z_in 1037 (by decide +kernel) rfl⟩
theorem zw_X7_isLogged : z_YV yX7_isLogged := ⟨z_in 1036 (by decide +kernel) rfl, z_in 73 (by decide +kernel) rfl⟩
theorem zy_X7_runs : z_Y yX7_runs cX7_runs 9 (some .int) 3 := ⟨⟨by decide +kernel, by decide +kernel, by decide +kernel⟩, z_in 94 (by decide +kernel) rfl, z_in 1033 (by decide +kernel) rfl⟩
theorem zw_X7_runs : z_YV yX7_runs := ⟨z_in 1032 (by decide +kernel) rfl, z_in 72 (by decide +kernel) rfl⟩
theorem zy_X7_commits : z_Y yX7_commits cX7_commits 4 (some .int) 0 := ⟨⟨by decide +kernel, by decide +kernel, by decide +kernel⟩, z_in 94 (by decide +kernel) rfl, z_in 1029 (by decide +kernel) rfl⟩
theorem zw_X7_commits : z_YV yX7_commits := ⟨z_in 1028 (by decide +kernel) rfl, z_in 71 (by decide +kernel) rfl⟩
theorem zy_X7_commit : z_Y yX7_commit cX7_commit 1 (some .int) 0 := ⟨⟨by decide +kernel, by decide +kernel, by decide +kernel⟩, z_in 94 (by decide +kernel) rfl, z_in 1025 (by decide +kernel) rfl⟩
theorem zw_X7_commit : z_YV yX7_commit := ⟨z_in 1023 (by decide +kernel) rfl, z_in 1024 (by decide +kernel) rfl⟩
theorem zy_X7_crash : z_Y yX7_crash cX7_crash 2 (some .int) 0 := ⟨⟨by decide +kernel, by decide +kernel, by decide +kernel⟩, z_in 94 (by decide +kernel) rfl, z_in 1045 (by decide +kernel) rfl⟩
theorem zw_X7_crash : z_YV yX7_crash := ⟨z_in 1043 (by decide +kernel) rfl, z_in 1044 (by decide +kernel) rfl⟩
theorem zy_X7_transaction : z_Y yX7_transaction cX7_transaction 1 (some .int) 0 := ⟨⟨by decide +kernel, by decide +kernel, by decide +kernel⟩, z_in 94 (by decide +kernel) rfl, z_in 1049 (by decide +kernel) rfl⟩
theorem zw_X7_transaction : z_YV yX7_transaction := ⟨z_in 1047 (by decide +kernel) rfl, z_in 1048 (by decide +kernel) rfl⟩
theorem zy_X7_snapshot : z_Y yX7_snapshot cX7_snapshot 5 (some .int) 1 := ⟨⟨by decide +kernel, by decide +kernel, by decide +kernel⟩, z_in 94 (by decide +kernel) rfl, z_in 1053 (by decide +kernel) rfl⟩
theorem zw_X7_snapshot : z_YV yX7_snapshot := ⟨z_in 1051 (by decide +kernel) rfl, z_in 1052 (by decide +kernel) rfl⟩
theorem zy_X7_isShot : z_Y yX7_isShot cX7_isShot 4 (some .boolean) 3 := ⟨⟨by decide +kernel, by decide +kernel, by decide +kernel⟩, z_in 94 (by decide +kernel) rfl, z_in 1061 (by decide +kernel) rfl⟩
theorem zw_X7_isShot : z_YV yX7_isShot := ⟨z_in 1060 (by decide +kernel) rfl, z_in 75 (by decide +kernel) rfl⟩
theorem zy_X7_inShot : z_Y yX7_inShot cX7_inShot 4 (some .int) 3 := ⟨⟨by decide +kernel, by decide +kernel, by decide +kernel⟩, z_in 94 (by decide +kernel) rfl, z_in 1069 (by decide +kernel) rfl⟩
theorem zw_X7_inShot : z_YV yX7_inShot := ⟨z_in 1068 (by decide +kernel) rfl, z_in 77 (by decide +kernel) rfl⟩
theorem zy_X7_readSnapshot : z_Y yX7_readSnapshot cX7_readSnapshot 4 (some .int) 3 := ⟨⟨by decide +kernel, by decide +kernel, by decide +kernel⟩, z_in 94 (by decide +kernel) rfl, z_in 1057 (by decide +kernel) rfl⟩
theorem zw_X7_readSnapshot : z_YV yX7_readSnapshot := ⟨z_in 1055 (by decide +kernel) rfl, z_in 1056 (by decide +kernel) rfl⟩
theorem zy_X7_blockInSnapshot : z_Y yX7_blockInSnapshot cX7_blockInSnapshot 4 (some .int) 3 := ⟨⟨by decide +kernel, by decide +kernel, by decide +kernel⟩, z_in 94 (by decide +kernel) rfl, z_in 1073 (by decide +kernel) rfl⟩
theorem zw_X7_blockInSnapshot : z_YV yX7_blockInSnapshot := ⟨z_in 1071 (by decide +kernel) rfl, z_in 1072 (by decide +kernel) rfl⟩
theorem zy_X7_transactionOf : z_Y yX7_transactionOf cX7_transactionOf 2 (some .int) 1 := ⟨⟨by decide +kernel, by decide +kernel, by decide +kernel⟩, z_in 94 (by decide +kernel) rfl, z_in 1077 (by decide +kernel) rfl⟩
theorem zw_X7_transactionOf : z_YV yX7_transactionOf := ⟨z_in 1075 (by decide +kernel) rfl, z_in 1076 (by decide +kernel) rfl⟩
theorem zy_X7_datasetOf : z_Y yX7_datasetOf cX7_datasetOf 2 (some .int) 1 := ⟨⟨by decide +kernel, by decide +kernel, by decide +kernel⟩, z_in 94 (by decide +kernel) rfl, z_in 1081 (by decide +kernel) rfl⟩
theorem zw_X7_datasetOf : z_YV yX7_datasetOf := ⟨z_in 1079 (by decide +kernel) rfl, z_in 1080 (by decide +kernel) rfl⟩
theorem zy_X7_snapshots : z_Y yX7_snapshots cX7_snapshots 2 (some .int) 1 := ⟨⟨by decide +kernel, by decide +kernel, by decide +kernel⟩, z_in 94 (by decide +kernel) rfl, z_in 1085 (by decide +kernel) rfl⟩
theorem zw_X7_snapshots : z_YV yX7_snapshots := ⟨z_in 1083 (by decide +kernel) rfl, z_in 1084 (by decide +kernel) rfl⟩
theorem zy_X7_snapshotAt : z_Y yX7_snapshotAt cX7_snapshotAt 4 (some .int) 2 := ⟨⟨by decide +kernel, by decide +kernel, by decide +kernel⟩, z_in 94 (by decide +kernel) rfl, z_in 1089 (by decide +kernel) rfl⟩
theorem zw_X7_snapshotAt : z_YV yX7_snapshotAt := ⟨z_in 1087 (by decide +kernel) rfl, z_in 1088 (by decide +kernel) rfl⟩
theorem zy_X7_isOrigin : z_Y yX7_isOrigin cX7_isOrigin 4 (some .boolean) 1 := ⟨⟨by decide +kernel, by decide +kernel, by decide +kernel⟩, z_in 94 (by decide +kernel) rfl, z_in 1097 (by decide +kernel) rfl⟩
theorem zw_X7_isOrigin : z_YV yX7_isOrigin := ⟨z_in 1096 (by decide +kernel) rfl, z_in 78 (by decide +kernel) rfl⟩
theorem zy_X7_placeOf : z_Y yX7_placeOf cX7_placeOf 4 (some .int) 1 := ⟨⟨by decide +kernel, by decide +kernel, by decide +kernel⟩, z_in 94 (by decide +kernel) rfl, z_in 1105 (by decide +kernel) rfl⟩
theorem zw_X7_placeOf : z_YV yX7_placeOf := ⟨z_in 1104 (by decide +kernel) rfl, z_in 80 (by decide +kernel) rfl⟩
theorem zy_X7_drops : z_Y yX7_drops cX7_drops 5 none 1 := ⟨⟨by decide +kernel, by decide +kernel, by decide +kernel⟩, z_in 94 (by decide +kernel) rfl, z_in 1101 (by decide +kernel) rfl⟩
theorem zw_X7_drops : z_YV yX7_drops := ⟨z_in 1100 (by decide +kernel) rfl, z_in 79 (by decide +kernel) rfl⟩
theorem zy_X7_destroySnapshot : z_Y yX7_destroySnapshot cX7_destroySnapshot 3 (some .int) 1 := ⟨⟨by decide +kernel, by decide +kernel, by decide +kernel⟩, z_in 94 (by decide +kernel) rfl, z_in 1093 (by decide +kernel) rfl⟩
theorem zw_X7_destroySnapshot : z_YV yX7_destroySnapshot := ⟨z_in 1091 (by decide +kernel) rfl, z_in 1092 (by decide +kernel) rfl⟩
theorem zy_X7_rollback : z_Y yX7_rollback cX7_rollback 7 (some .int) 2 := ⟨⟨by decide +kernel, by decide +kernel, by decide +kernel⟩, z_in 94 (by decide +kernel) rfl, z_in 1109 (by decide +kernel) rfl⟩
theorem zw_X7_rollback : z_YV yX7_rollback := ⟨z_in 1107 (by decide +kernel) rfl, z_in 1108 (by decide +kernel) rfl⟩
theorem zy_X7_changed : z_Y yX7_changed cX7_changed 7 (some .int) 2 := ⟨⟨by decide +kernel, by decide +kernel, by decide +kernel⟩, z_in 94 (by decide +kernel) rfl, z_in 1113 (by decide +kernel) rfl⟩
theorem zw_X7_changed : z_YV yX7_changed := ⟨z_in 1111 (by decide +kernel) rfl, z_in 1112 (by decide +kernel) rfl⟩
theorem zy_X7_countSets : z_Y yX7_countSets cX7_countSets 3 (some .int) 0 := ⟨⟨by decide +kernel, by decide +kernel, by decide +kernel⟩, z_in 94 (by decide +kernel) rfl, z_in 1121 (by decide +kernel) rfl⟩
theorem zw_X7_countSets : z_YV yX7_countSets := ⟨z_in 1120 (by decide +kernel) rfl, z_in 81 (by decide +kernel) rfl⟩
theorem zy_X7_datasets : z_Y yX7_datasets cX7_datasets 1 (some .int) 0 := ⟨⟨by decide +kernel, by decide +kernel, by decide +kernel⟩, z_in 94 (by decide +kernel) rfl, z_in 1117 (by decide +kernel) rfl⟩
theorem zw_X7_datasets : z_YV yX7_datasets := ⟨z_in 1115 (by decide +kernel) rfl, z_in 1116 (by decide +kernel) rfl⟩
theorem zy_X7_makeClone : z_Y yX7_makeClone cX7_makeClone 5 (some .int) 1 := ⟨⟨by decide +kernel, by decide +kernel, by decide +kernel⟩, z_in 94 (by decide +kernel) rfl, z_in 1125 (by decide +kernel) rfl⟩
theorem zw_X7_makeClone : z_YV yX7_makeClone := ⟨z_in 1123 (by decide +kernel) rfl, z_in 1124 (by decide +kernel) rfl⟩
theorem zy_X7_origin : z_Y yX7_origin cX7_origin 3 (some .int) 1 := ⟨⟨by decide +kernel, by decide +kernel, by decide +kernel⟩, z_in 94 (by decide +kernel) rfl, z_in 1129 (by decide +kernel) rfl⟩
theorem zw_X7_origin : z_YV yX7_origin := ⟨z_in 1127 (by decide +kernel) rfl, z_in 1128 (by decide +kernel) rfl⟩
theorem zy_X7_promote : z_Y yX7_promote cX7_promote 8 (some .int) 1 := ⟨⟨by decide +kernel, by decide +kernel, by decide +kernel⟩, z_in 94 (by decide +kernel) rfl, z_in 1133 (by decide +kernel) rfl⟩
theorem zw_X7_promote : z_YV yX7_promote := ⟨z_in 1131 (by decide +kernel) rfl, z_in 1132 (by decide +kernel) rfl⟩
theorem zy_X7_destroy : z_Y yX7_destroy cX7_destroy 4 (some .int) 1 := ⟨⟨by decide +kernel, by decide +kernel, by decide +kernel⟩, z_in 94 (by decide +kernel) rfl, z_in 1137 (by decide +kernel) rfl⟩
theorem zw_X7_destroy : z_YV yX7_destroy := ⟨z_in 1135 (by decide +kernel) rfl, z_in 1136 (by decide +kernel) rfl⟩
theorem zy_X7_blocksIn : z_Y yX7_blocksIn cX7_blocksIn 5 (some .int) 2 := ⟨⟨by decide +kernel, by decide +kernel, by decide +kernel⟩, z_in 94 (by decide +kernel) rfl, z_in 1145 (by decide +kernel) rfl⟩
theorem zw_X7_blocksIn : z_YV yX7_blocksIn := ⟨z_in 1144 (by decide +kernel) rfl, z_in 82 (by decide +kernel) rfl⟩
theorem zy_X7_referenced : z_Y yX7_referenced cX7_referenced 2 (some .int) 1 := ⟨⟨by decide +kernel, by decide +kernel, by decide +kernel⟩, z_in 94 (by decide +kernel) rfl, z_in 1141 (by decide +kernel) rfl⟩
theorem zw_X7_referenced : z_YV yX7_referenced := ⟨z_in 1139 (by decide +kernel) rfl, z_in 1140 (by decide +kernel) rfl⟩
theorem zy_X7_unique : z_Y yX7_unique cX7_unique 2 (some .int) 1 := ⟨⟨by decide +kernel, by decide +kernel, by decide +kernel⟩, z_in 94 (by decide +kernel) rfl, z_in 1149 (by decide +kernel) rfl⟩
theorem zw_X7_unique : z_YV yX7_unique := ⟨z_in 1147 (by decide +kernel) rfl, z_in 1148 (by decide +kernel) rfl⟩
theorem zy_X7_uniqueOfSnapshot : z_Y yX7_uniqueOfSnapshot cX7_uniqueOfSnapshot 2 (some .int) 1 := ⟨⟨by decide +kernel, by decide +kernel, by decide +kernel⟩, z_in 94 (by decide +kernel) rfl, z_in 1153 (by decide +kernel) rfl⟩
theorem zw_X7_uniqueOfSnapshot : z_YV yX7_uniqueOfSnapshot := ⟨z_in 1151 (by decide +kernel) rfl, z_in 1152 (by decide +kernel) rfl⟩
theorem zy_X7_newer : z_Y yX7_newer cX7_newer 7 (some .int) 2 := ⟨⟨by decide +kernel, by decide +kernel, by decide +kernel⟩, z_in 94 (by decide +kernel) rfl, z_in 1157 (by decide +kernel) rfl⟩
theorem zw_X7_newer : z_YV yX7_newer := ⟨z_in 1155 (by decide +kernel) rfl, z_in 1156 (by decide +kernel) rfl⟩
theorem zy_X7_birth : z_Y yX7_birth cX7_birth 3 (some .int) 1 := ⟨⟨by decide +kernel, by decide +kernel, by decide +kernel⟩, z_in 94 (by decide +kernel) rfl, z_in 1161 (by decide +kernel) rfl⟩
theorem zw_X7_birth : z_YV yX7_birth := ⟨z_in 1159 (by decide +kernel) rfl, z_in 1160 (by decide +kernel) rfl⟩
theorem zy_X7_references : z_Y yX7_references cX7_references 2 (some .int) 1 := ⟨⟨by decide +kernel, by decide +kernel, by decide +kernel⟩, z_in 94 (by decide +kernel) rfl, z_in 1165 (by decide +kernel) rfl⟩
theorem zw_X7_references : z_YV yX7_references := ⟨z_in 1163 (by decide +kernel) rfl, z_in 1164 (by decide +kernel) rfl⟩
theorem zy_X7_free : z_Y yX7_free cX7_free 1 (some .int) 0 := ⟨⟨by decide +kernel, by decide +kernel, by decide +kernel⟩, z_in 94 (by decide +kernel) rfl, z_in 1169 (by decide +kernel) rfl⟩
theorem zw_X7_free : z_YV yX7_free := ⟨z_in 1167 (by decide +kernel) rfl, z_in 1168 (by decide +kernel) rfl⟩
theorem zy_X7_pending : z_Y yX7_pending cX7_pending 3 (some .int) 0 := ⟨⟨by decide +kernel, by decide +kernel, by decide +kernel⟩, z_in 94 (by decide +kernel) rfl, z_in 1173 (by decide +kernel) rfl⟩
theorem zw_X7_pending : z_YV yX7_pending := ⟨z_in 1171 (by decide +kernel) rfl, z_in 1172 (by decide +kernel) rfl⟩
theorem zy_X7_isRegion : z_Y yX7_isRegion cX7_isRegion 2 (some .boolean) 1 := ⟨⟨by decide +kernel, by decide +kernel, by decide +kernel⟩, z_in 94 (by decide +kernel) rfl, z_in 1181 (by decide +kernel) rfl⟩
theorem zw_X7_isRegion : z_YV yX7_isRegion := ⟨z_in 1180 (by decide +kernel) rfl, z_in 83 (by decide +kernel) rfl⟩
theorem zy_X7_freeIn : z_Y yX7_freeIn cX7_freeIn 2 (some .int) 1 := ⟨⟨by decide +kernel, by decide +kernel, by decide +kernel⟩, z_in 94 (by decide +kernel) rfl, z_in 1177 (by decide +kernel) rfl⟩
theorem zw_X7_freeIn : z_YV yX7_freeIn := ⟨z_in 1175 (by decide +kernel) rfl, z_in 1176 (by decide +kernel) rfl⟩
theorem zy_X7_logEntries : z_Y yX7_logEntries cX7_logEntries 2 (some .int) 1 := ⟨⟨by decide +kernel, by decide +kernel, by decide +kernel⟩, z_in 94 (by decide +kernel) rfl, z_in 1185 (by decide +kernel) rfl⟩
theorem zw_X7_logEntries : z_YV yX7_logEntries := ⟨z_in 1183 (by decide +kernel) rfl, z_in 1184 (by decide +kernel) rfl⟩
theorem zy_X7_isEntry : z_Y yX7_isEntry cX7_isEntry 3 (some .boolean) 2 := ⟨⟨by decide +kernel, by decide +kernel, by decide +kernel⟩, z_in 94 (by decide +kernel) rfl, z_in 1193 (by decide +kernel) rfl⟩
theorem zw_X7_isEntry : z_YV yX7_isEntry := ⟨z_in 1192 (by decide +kernel) rfl, z_in 84 (by decide +kernel) rfl⟩
theorem zy_X7_runAt : z_Y yX7_runAt cX7_runAt 4 (some .int) 2 := ⟨⟨by decide +kernel, by decide +kernel, by decide +kernel⟩, z_in 94 (by decide +kernel) rfl, z_in 1189 (by decide +kernel) rfl⟩
theorem zw_X7_runAt : z_YV yX7_runAt := ⟨z_in 1187 (by decide +kernel) rfl, z_in 1188 (by decide +kernel) rfl⟩
theorem zy_X7_allocates : z_Y yX7_allocates cX7_allocates 3 (some .boolean) 2 := ⟨⟨by decide +kernel, by decide +kernel, by decide +kernel⟩, z_in 94 (by decide +kernel) rfl, z_in 1197 (by decide +kernel) rfl⟩
theorem zw_X7_allocates : z_YV yX7_allocates := ⟨z_in 1195 (by decide +kernel) rfl, z_in 1196 (by decide +kernel) rfl⟩
theorem zy_X7_replay : z_Y yX7_replay cX7_replay 6 (some .int) 1 := ⟨⟨by decide +kernel, by decide +kernel, by decide +kernel⟩, z_in 94 (by decide +kernel) rfl, z_in 1201 (by decide +kernel) rfl⟩
theorem zw_X7_replay : z_YV yX7_replay := ⟨z_in 1199 (by decide +kernel) rfl, z_in 1200 (by decide +kernel) rfl⟩
theorem zy_X7_condensed : z_Y yX7_condensed cX7_condensed 1 (some .int) 0 := ⟨⟨by decide +kernel, by decide +kernel, by decide +kernel⟩, z_in 94 (by decide +kernel) rfl, z_in 1205 (by decide +kernel) rfl⟩
theorem zw_X7_condensed : z_YV yX7_condensed := ⟨z_in 1203 (by decide +kernel) rfl, z_in 1204 (by decide +kernel) rfl⟩
theorem zy_X0_init : z_Y yX0_init cX0_init 2 none 1 := ⟨⟨by decide +kernel, by decide +kernel, by decide +kernel⟩, z_in 89 (by decide +kernel) rfl, z_in 145 (by decide +kernel) rfl⟩
theorem zy_X0_copyFrom : z_Y yX0_copyFrom cX0_copyFrom 2 none 1 := ⟨⟨by decide +kernel, by decide +kernel, by decide +kernel⟩, z_in 89 (by decide +kernel) rfl, z_in 330 (by decide +kernel) rfl⟩
theorem zw_X0_copyFrom : z_YV yX0_copyFrom := ⟨z_in 329 (by decide +kernel) rfl, z_in 10 (by decide +kernel) rfl⟩
theorem zy_X1_init : z_Y yX1_init cX1_init 2 none 1 := ⟨⟨by decide +kernel, by decide +kernel, by decide +kernel⟩, z_in 93 (by decide +kernel) rfl, z_in 215 (by decide +kernel) rfl⟩
theorem zy_X1_isEntry : z_Y yX1_isEntry cX1_isEntry 1 (some .boolean) 1 := ⟨⟨by decide +kernel, by decide +kernel, by decide +kernel⟩, z_in 93 (by decide +kernel) rfl, z_in 314 (by decide +kernel) rfl⟩
theorem zs_X1_isEntry : Cond.static yX1_isEntry ∈ z_TB := z_in 313 (by decide +kernel) rfl
theorem zy_X1_firstOf : z_Y yX1_firstOf cX1_firstOf 2 (some .int) 1 := ⟨⟨by decide +kernel, by decide +kernel, by decide +kernel⟩, z_in 93 (by decide +kernel) rfl, z_in 894 (by decide +kernel) rfl⟩
theorem zw_X1_firstOf : z_YV yX1_firstOf := ⟨z_in 893 (by decide +kernel) rfl, z_in 58 (by decide +kernel) rfl⟩
theorem zy_X1_blocksOf : z_Y yX1_blocksOf cX1_blocksOf 2 (some .int) 1 := ⟨⟨by decide +kernel, by decide +kernel, by decide +kernel⟩, z_in 93 (by decide +kernel) rfl, z_in 898 (by decide +kernel) rfl⟩
theorem zw_X1_blocksOf : z_YV yX1_blocksOf := ⟨z_in 897 (by decide +kernel) rfl, z_in 59 (by decide +kernel) rfl⟩
theorem zy_X1_isAllocation : z_Y yX1_isAllocation cX1_isAllocation 2 (some .boolean) 1 := ⟨⟨by decide +kernel, by decide +kernel, by decide +kernel⟩, z_in 93 (by decide +kernel) rfl, z_in 909 (by decide +kernel) rfl⟩
theorem zw_X1_isAllocation : z_YV yX1_isAllocation := ⟨z_in 908 (by decide +kernel) rfl, z_in 60 (by decide +kernel) rfl⟩
theorem zy_X1_record : z_Y yX1_record cX1_record 3 (some .boolean) 2 := ⟨⟨by decide +kernel, by decide +kernel, by decide +kernel⟩, z_in 93 (by decide +kernel) rfl, z_in 292 (by decide +kernel) rfl⟩
theorem zw_X1_record : z_YV yX1_record := ⟨z_in 291 (by decide +kernel) rfl, z_in 2 (by decide +kernel) rfl⟩
theorem zy_X1_markChanges : z_Y yX1_markChanges cX1_markChanges 4 none 2 := ⟨⟨by decide +kernel, by decide +kernel, by decide +kernel⟩, z_in 93 (by decide +kernel) rfl, z_in 296 (by decide +kernel) rfl⟩
theorem zw_X1_markChanges : z_YV yX1_markChanges := ⟨z_in 295 (by decide +kernel) rfl, z_in 3 (by decide +kernel) rfl⟩
theorem zy_X1_markAllocated : z_Y yX1_markAllocated cX1_markAllocated 3 none 1 := ⟨⟨by decide +kernel, by decide +kernel, by decide +kernel⟩, z_in 93 (by decide +kernel) rfl, z_in 318 (by decide +kernel) rfl⟩
theorem zw_X1_markAllocated : z_YV yX1_markAllocated := ⟨z_in 317 (by decide +kernel) rfl, z_in 7 (by decide +kernel) rfl⟩
theorem zy_X1_countMarkedRuns : z_Y yX1_countMarkedRuns cX1_countMarkedRuns 3 (some .int) 0 := ⟨⟨by decide +kernel, by decide +kernel, by decide +kernel⟩, z_in 93 (by decide +kernel) rfl, z_in 322 (by decide +kernel) rfl⟩
theorem zw_X1_countMarkedRuns : z_YV yX1_countMarkedRuns := ⟨z_in 321 (by decide +kernel) rfl, z_in 8 (by decide +kernel) rfl⟩
theorem zy_X1_appendMarkedRuns : z_Y yX1_appendMarkedRuns cX1_appendMarkedRuns 4 none 1 := ⟨⟨by decide +kernel, by decide +kernel, by decide +kernel⟩, z_in 93 (by decide +kernel) rfl, z_in 307 (by decide +kernel) rfl⟩
theorem zw_X1_appendMarkedRuns : z_YV yX1_appendMarkedRuns := ⟨z_in 306 (by decide +kernel) rfl, z_in 5 (by decide +kernel) rfl⟩
theorem zy_X1_append : z_Y yX1_append cX1_append 4 none 3 := ⟨⟨by decide +kernel, by decide +kernel, by decide +kernel⟩, z_in 93 (by decide +kernel) rfl, z_in 311 (by decide +kernel) rfl⟩
theorem zw_X1_append : z_YV yX1_append := ⟨z_in 310 (by decide +kernel) rfl, z_in 6 (by decide +kernel) rfl⟩
theorem zy_X1_countReplayed : z_Y yX1_countReplayed cX1_countReplayed 3 (some .int) 0 := ⟨⟨by decide +kernel, by decide +kernel, by decide +kernel⟩, z_in 93 (by decide +kernel) rfl, z_in 920 (by decide +kernel) rfl⟩
theorem zw_X1_countReplayed : z_YV yX1_countReplayed := ⟨z_in 919 (by decide +kernel) rfl, z_in 61 (by decide +kernel) rfl⟩
theorem zy_X1_replayEntry : z_Y yX1_replayEntry cX1_replayEntry 5 none 1 := ⟨⟨by decide +kernel, by decide +kernel, by decide +kernel⟩, z_in 93 (by decide +kernel) rfl, z_in 924 (by decide +kernel) rfl⟩
theorem zw_X1_replayEntry : z_YV yX1_replayEntry := ⟨z_in 923 (by decide +kernel) rfl, z_in 62 (by decide +kernel) rfl⟩
theorem zy_X1_copyFrom : z_Y yX1_copyFrom cX1_copyFrom 3 none 1 := ⟨⟨by decide +kernel, by decide +kernel, by decide +kernel⟩, z_in 93 (by decide +kernel) rfl, z_in 351 (by decide +kernel) rfl⟩
theorem zw_X1_copyFrom : z_YV yX1_copyFrom := ⟨z_in 350 (by decide +kernel) rfl, z_in 14 (by decide +kernel) rfl⟩
theorem zy_X2_init : z_Y yX2_init cX2_init 1 none 0 := ⟨⟨by decide +kernel, by decide +kernel, by decide +kernel⟩, z_in 92 (by decide +kernel) rfl, z_in 179 (by decide +kernel) rfl⟩
theorem zy_X2_belongsTo : z_Y yX2_belongsTo cX2_belongsTo 2 (some .boolean) 1 := ⟨⟨by decide +kernel, by decide +kernel, by decide +kernel⟩, z_in 92 (by decide +kernel) rfl, z_in 636 (by decide +kernel) rfl⟩
theorem zw_X2_belongsTo : z_YV yX2_belongsTo := ⟨z_in 635 (by decide +kernel) rfl, z_in 39 (by decide +kernel) rfl⟩
theorem zy_X2_copyFrom : z_Y yX2_copyFrom cX2_copyFrom 2 none 1 := ⟨⟨by decide +kernel, by decide +kernel, by decide +kernel⟩, z_in 92 (by decide +kernel) rfl, z_in 341 (by decide +kernel) rfl⟩
theorem zw_X2_copyFrom : z_YV yX2_copyFrom := ⟨z_in 340 (by decide +kernel) rfl, z_in 12 (by decide +kernel) rfl⟩
theorem zy_X3_init : z_Y yX3_init cX3_init 1 none 0 := ⟨⟨by decide +kernel, by decide +kernel, by decide +kernel⟩, z_in 88 (by decide +kernel) rfl, z_in 124 (by decide +kernel) rfl⟩
theorem zy_X3_isBlock : z_Y yX3_isBlock cX3_isBlock 1 (some .boolean) 1 := ⟨⟨by decide +kernel, by decide +kernel, by decide +kernel⟩, z_in 88 (by decide +kernel) rfl, z_in 303 (by decide +kernel) rfl⟩
theorem zs_X3_isBlock : Cond.static yX3_isBlock ∈ z_TB := z_in 302 (by decide +kernel) rfl
theorem zy_X3_isAllocated : z_Y yX3_isAllocated cX3_isAllocated 2 (some .boolean) 1 := ⟨⟨by decide +kernel, by decide +kernel, by decide +kernel⟩, z_in 88 (by decide +kernel) rfl, z_in 300 (by decide +kernel) rfl⟩
theorem zw_X3_isAllocated : z_YV yX3_isAllocated := ⟨z_in 299 (by decide +kernel) rfl, z_in 4 (by decide +kernel) rfl⟩
theorem zy_X3_valueOf : z_Y yX3_valueOf cX3_valueOf 2 (some .int) 1 := ⟨⟨by decide +kernel, by decide +kernel, by decide +kernel⟩, z_in 88 (by decide +kernel) rfl, z_in 559 (by decide +kernel) rfl⟩
theorem zw_X3_valueOf : z_YV yX3_valueOf := ⟨z_in 558 (by decide +kernel) rfl, z_in 34 (by decide +kernel) rfl⟩
theorem zy_X3_setValue : z_Y yX3_setValue cX3_setValue 3 none 2 := ⟨⟨by decide +kernel, by decide +kernel, by decide +kernel⟩, z_in 88 (by decide +kernel) rfl, z_in 490 (by decide +kernel) rfl⟩
theorem zw_X3_setValue : z_YV yX3_setValue := ⟨z_in 489 (by decide +kernel) rfl, z_in 23 (by decide +kernel) rfl⟩
theorem zy_X3_birthOf : z_Y yX3_birthOf cX3_birthOf 2 (some .int) 1 := ⟨⟨by decide +kernel, by decide +kernel, by decide +kernel⟩, z_in 88 (by decide +kernel) rfl, z_in 835 (by decide +kernel) rfl⟩
theorem zw_X3_birthOf : z_YV yX3_birthOf := ⟨z_in 834 (by decide +kernel) rfl, z_in 55 (by decide +kernel) rfl⟩
theorem zy_X3_bornIn : z_Y yX3_bornIn cX3_bornIn 3 (some .boolean) 2 := ⟨⟨by decide +kernel, by decide +kernel, by decide +kernel⟩, z_in 88 (by decide +kernel) rfl, z_in 481 (by decide +kernel) rfl⟩
theorem zw_X3_bornIn : z_YV yX3_bornIn := ⟨z_in 480 (by decide +kernel) rfl, z_in 21 (by decide +kernel) rfl⟩
theorem zy_X3_usesOf : z_Y yX3_usesOf cX3_usesOf 2 (some .int) 1 := ⟨⟨by decide +kernel, by decide +kernel, by decide +kernel⟩, z_in 88 (by decide +kernel) rfl, z_in 486 (by decide +kernel) rfl⟩
theorem zw_X3_usesOf : z_YV yX3_usesOf := ⟨z_in 485 (by decide +kernel) rfl, z_in 22 (by decide +kernel) rfl⟩
theorem zy_X3_addUse : z_Y yX3_addUse cX3_addUse 2 none 1 := ⟨⟨by decide +kernel, by decide +kernel, by decide +kernel⟩, z_in 88 (by decide +kernel) rfl, z_in 536 (by decide +kernel) rfl⟩
theorem zw_X3_addUse : z_YV yX3_addUse := ⟨z_in 535 (by decide +kernel) rfl, z_in 30 (by decide +kernel) rfl⟩
theorem zy_X3_removeUse : z_Y yX3_removeUse cX3_removeUse 2 none 1 := ⟨⟨by decide +kernel, by decide +kernel, by decide +kernel⟩, z_in 88 (by decide +kernel) rfl, z_in 532 (by decide +kernel) rfl⟩
theorem zw_X3_removeUse : z_YV yX3_removeUse := ⟨z_in 531 (by decide +kernel) rfl, z_in 29 (by decide +kernel) rfl⟩
theorem zy_X3_allocate : z_Y yX3_allocate cX3_allocate 4 none 3 := ⟨⟨by decide +kernel, by decide +kernel, by decide +kernel⟩, z_in 88 (by decide +kernel) rfl, z_in 523 (by decide +kernel) rfl⟩
theorem zw_X3_allocate : z_YV yX3_allocate := ⟨z_in 522 (by decide +kernel) rfl, z_in 27 (by decide +kernel) rfl⟩
theorem zy_X3_count : z_Y yX3_count cX3_count 6 (some .int) 3 := ⟨⟨by decide +kernel, by decide +kernel, by decide +kernel⟩, z_in 88 (by decide +kernel) rfl, z_in 375 (by decide +kernel) rfl⟩
theorem zw_X3_count : z_YV yX3_count := ⟨z_in 374 (by decide +kernel) rfl, z_in 16 (by decide +kernel) rfl⟩
theorem zy_X3_freeInRegion : z_Y yX3_freeInRegion cX3_freeInRegion 3 (some .int) 1 := ⟨⟨by decide +kernel, by decide +kernel, by decide +kernel⟩, z_in 88 (by decide +kernel) rfl, z_in 502 (by decide +kernel) rfl⟩
theorem zw_X3_freeInRegion : z_YV yX3_freeInRegion := ⟨z_in 501 (by decide +kernel) rfl, z_in 26 (by decide +kernel) rfl⟩
theorem zy_X3_emptiestRegion : z_Y yX3_emptiestRegion cX3_emptiestRegion 5 (some .int) 0 := ⟨⟨by decide +kernel, by decide +kernel, by decide +kernel⟩, z_in 88 (by decide +kernel) rfl, z_in 498 (by decide +kernel) rfl⟩
theorem zw_X3_emptiestRegion : z_YV yX3_emptiestRegion := ⟨z_in 497 (by decide +kernel) rfl, z_in 25 (by decide +kernel) rfl⟩
theorem zy_X3_nextFreeBlock : z_Y yX3_nextFreeBlock cX3_nextFreeBlock 3 (some .int) 0 := ⟨⟨by decide +kernel, by decide +kernel, by decide +kernel⟩, z_in 88 (by decide +kernel) rfl, z_in 494 (by decide +kernel) rfl⟩
theorem zw_X3_nextFreeBlock : z_YV yX3_nextFreeBlock := ⟨z_in 493 (by decide +kernel) rfl, z_in 24 (by decide +kernel) rfl⟩
theorem zy_X3_retireUnused : z_Y yX3_retireUnused cX3_retireUnused 4 (some .int) 1 := ⟨⟨by decide +kernel, by decide +kernel, by decide +kernel⟩, z_in 88 (by decide +kernel) rfl, z_in 548 (by decide +kernel) rfl⟩
theorem zw_X3_retireUnused : z_YV yX3_retireUnused := ⟨z_in 547 (by decide +kernel) rfl, z_in 33 (by decide +kernel) rfl⟩
theorem zy_X3_releasePending : z_Y yX3_releasePending cX3_releasePending 2 none 0 := ⟨⟨by decide +kernel, by decide +kernel, by decide +kernel⟩, z_in 88 (by decide +kernel) rfl, z_in 288 (by decide +kernel) rfl⟩
theorem zw_X3_releasePending : z_YV yX3_releasePending := ⟨z_in 287 (by decide +kernel) rfl, z_in 1 (by decide +kernel) rfl⟩
theorem zy_X3_copyFrom : z_Y yX3_copyFrom cX3_copyFrom 2 none 1 := ⟨⟨by decide +kernel, by decide +kernel, by decide +kernel⟩, z_in 88 (by decide +kernel) rfl, z_in 346 (by decide +kernel) rfl⟩
theorem zw_X3_copyFrom : z_YV yX3_copyFrom := ⟨z_in 345 (by decide +kernel) rfl, z_in 13 (by decide +kernel) rfl⟩
theorem zy_X4_init : z_Y yX4_init cX4_init 1 none 0 := ⟨⟨by decide +kernel, by decide +kernel, by decide +kernel⟩, z_in 90 (by decide +kernel) rfl, z_in 151 (by decide +kernel) rfl⟩
theorem zy_X4_blockOf : z_Y yX4_blockOf cX4_blockOf 2 (some .int) 1 := ⟨⟨by decide +kernel, by decide +kernel, by decide +kernel⟩, z_in 90 (by decide +kernel) rfl, z_in 477 (by decide +kernel) rfl⟩
theorem zw_X4_blockOf : z_YV yX4_blockOf := ⟨z_in 476 (by decide +kernel) rfl, z_in 20 (by decide +kernel) rfl⟩
theorem zy_X4_set : z_Y yX4_set cX4_set 3 none 2 := ⟨⟨by decide +kernel, by decide +kernel, by decide +kernel⟩, z_in 90 (by decide +kernel) rfl, z_in 540 (by decide +kernel) rfl⟩
theorem zw_X4_set : z_YV yX4_set := ⟨z_in 539 (by decide +kernel) rfl, z_in 31 (by decide +kernel) rfl⟩
theorem zy_X4_copyFrom : z_Y yX4_copyFrom cX4_copyFrom 2 none 1 := ⟨⟨by decide +kernel, by decide +kernel, by decide +kernel⟩, z_in 90 (by decide +kernel) rfl, z_in 334 (by decide +kernel) rfl⟩
theorem zw_X4_copyFrom : z_YV yX4_copyFrom := ⟨z_in 333 (by decide +kernel) rfl, z_in 11 (by decide +kernel) rfl⟩
theorem zy_X5_init : z_Y yX5_init cX5_init 2 none 0 := ⟨⟨by decide +kernel, by decide +kernel, by decide +kernel⟩, z_in 87 (by decide +kernel) rfl, z_in 114 (by decide +kernel) rfl⟩
theorem zy_X5_copyFrom : z_Y yX5_copyFrom cX5_copyFrom 3 none 1 := ⟨⟨by decide +kernel, by decide +kernel, by decide +kernel⟩, z_in 87 (by decide +kernel) rfl, z_in 326 (by decide +kernel) rfl⟩
theorem zw_X5_copyFrom : z_YV yX5_copyFrom := ⟨z_in 325 (by decide +kernel) rfl, z_in 9 (by decide +kernel) rfl⟩
theorem zy_X5_findDataset : z_Y yX5_findDataset cX5_findDataset 2 (some (.object "Cowmeadow$Dataset")) 1 := ⟨⟨by decide +kernel, by decide +kernel, by decide +kernel⟩, z_in 87 (by decide +kernel) rfl, z_in 400 (by decide +kernel) rfl⟩
theorem zw_X5_findDataset : z_YV yX5_findDataset := ⟨z_in 399 (by decide +kernel) rfl, z_in 18 (by decide +kernel) rfl⟩
theorem zy_X5_findSnapshot : z_Y yX5_findSnapshot cX5_findSnapshot 3 (some (.object "Cowmeadow$Snapshot")) 1 := ⟨⟨by decide +kernel, by decide +kernel, by decide +kernel⟩, z_in 87 (by decide +kernel) rfl, z_in 656 (by decide +kernel) rfl⟩
theorem zw_X5_findSnapshot : z_YV yX5_findSnapshot := ⟨z_in 655 (by decide +kernel) rfl, z_in 42 (by decide +kernel) rfl⟩
theorem zy_X5_snapshotOfRank : z_Y yX5_snapshotOfRank cX5_snapshotOfRank 4 (some (.object "Cowmeadow$Snapshot")) 2 := ⟨⟨by decide +kernel, by decide +kernel, by decide +kernel⟩, z_in 87 (by decide +kernel) rfl, z_in 697 (by decide +kernel) rfl⟩
theorem zw_X5_snapshotOfRank : z_YV yX5_snapshotOfRank := ⟨z_in 696 (by decide +kernel) rfl, z_in 43 (by decide +kernel) rfl⟩
theorem zy_X5_unusedSnapshot : z_Y yX5_unusedSnapshot cX5_unusedSnapshot 2 (some (.object "Cowmeadow$Snapshot")) 0 := ⟨⟨by decide +kernel, by decide +kernel, by decide +kernel⟩, z_in 87 (by decide +kernel) rfl, z_in 623 (by decide +kernel) rfl⟩
theorem zw_X5_unusedSnapshot : z_YV yX5_unusedSnapshot := ⟨z_in 622 (by decide +kernel) rfl, z_in 36 (by decide +kernel) rfl⟩
theorem zy_X5_unusedDataset : z_Y yX5_unusedDataset cX5_unusedDataset 2 (some .int) 0 := ⟨⟨by decide +kernel, by decide +kernel, by decide +kernel⟩, z_in 87 (by decide +kernel) rfl, z_in 760 (by decide +kernel) rfl⟩
theorem zw_X5_unusedDataset : z_YV yX5_unusedDataset := ⟨z_in 759 (by decide +kernel) rfl, z_in 50 (by decide +kernel) rfl⟩
theorem zy_X5_countDatasets : z_Y yX5_countDatasets cX5_countDatasets 3 (some .int) 0 := ⟨⟨by decide +kernel, by decide +kernel, by decide +kernel⟩, z_in 87 (by decide +kernel) rfl, z_in 367 (by decide +kernel) rfl⟩
theorem zw_X5_countDatasets : z_YV yX5_countDatasets := ⟨z_in 366 (by decide +kernel) rfl, z_in 15 (by decide +kernel) rfl⟩
theorem zy_X5_snapshotsOf : z_Y yX5_snapshotsOf cX5_snapshotsOf 4 (some .int) 1 := ⟨⟨by decide +kernel, by decide +kernel, by decide +kernel⟩, z_in 87 (by decide +kernel) rfl, z_in 632 (by decide +kernel) rfl⟩
theorem zw_X5_snapshotsOf : z_YV yX5_snapshotsOf := ⟨z_in 631 (by decide +kernel) rfl, z_in 38 (by decide +kernel) rfl⟩
theorem zy_X5_isOrigin : z_Y yX5_isOrigin cX5_isOrigin 3 (some .boolean) 1 := ⟨⟨by decide +kernel, by decide +kernel, by decide +kernel⟩, z_in 87 (by decide +kernel) rfl, z_in 709 (by decide +kernel) rfl⟩
theorem zw_X5_isOrigin : z_YV yX5_isOrigin := ⟨z_in 708 (by decide +kernel) rfl, z_in 44 (by decide +kernel) rfl⟩
theorem zy_X5_hasOriginBehind : z_Y yX5_hasOriginBehind cX5_hasOriginBehind 3 (some .boolean) 1 := ⟨⟨by decide +kernel, by decide +kernel, by decide +kernel⟩, z_in 87 (by decide +kernel) rfl, z_in 734 (by decide +kernel) rfl⟩
theorem zw_X5_hasOriginBehind : z_YV yX5_hasOriginBehind := ⟨z_in 733 (by decide +kernel) rfl, z_in 48 (by decide +kernel) rfl⟩
theorem zy_X5_isBehind : z_Y yX5_isBehind cX5_isBehind 3 (some .boolean) 2 := ⟨⟨by decide +kernel, by decide +kernel, by decide +kernel⟩, z_in 87 (by decide +kernel) rfl, z_in 718 (by decide +kernel) rfl⟩
theorem zw_X5_isBehind : z_YV yX5_isBehind := ⟨z_in 717 (by decide +kernel) rfl, z_in 46 (by decide +kernel) rfl⟩
theorem zy_X5_put : z_Y yX5_put cX5_put 4 none 3 := ⟨⟨by decide +kernel, by decide +kernel, by decide +kernel⟩, z_in 87 (by decide +kernel) rfl, z_in 527 (by decide +kernel) rfl⟩
theorem zw_X5_put : z_YV yX5_put := ⟨z_in 526 (by decide +kernel) rfl, z_in 28 (by decide +kernel) rfl⟩
theorem zy_X5_fill : z_Y yX5_fill cX5_fill 4 none 2 := ⟨⟨by decide +kernel, by decide +kernel, by decide +kernel⟩, z_in 87 (by decide +kernel) rfl, z_in 640 (by decide +kernel) rfl⟩
theorem zw_X5_fill : z_YV yX5_fill := ⟨z_in 639 (by decide +kernel) rfl, z_in 40 (by decide +kernel) rfl⟩
theorem zy_X5_clear : z_Y yX5_clear cX5_clear 3 none 1 := ⟨⟨by decide +kernel, by decide +kernel, by decide +kernel⟩, z_in 87 (by decide +kernel) rfl, z_in 722 (by decide +kernel) rfl⟩
theorem zw_X5_clear : z_YV yX5_clear := ⟨z_in 721 (by decide +kernel) rfl, z_in 47 (by decide +kernel) rfl⟩
theorem zy_X5_settle : z_Y yX5_settle cX5_settle 1 (some .int) 0 := ⟨⟨by decide +kernel, by decide +kernel, by decide +kernel⟩, z_in 87 (by decide +kernel) rfl, z_in 544 (by decide +kernel) rfl⟩
theorem zw_X5_settle : z_YV yX5_settle := ⟨z_in 543 (by decide +kernel) rfl, z_in 32 (by decide +kernel) rfl⟩
theorem zy_X5_take : z_Y yX5_take cX5_take 4 none 3 := ⟨⟨by decide +kernel, by decide +kernel, by decide +kernel⟩, z_in 87 (by decide +kernel) rfl, z_in 628 (by decide +kernel) rfl⟩
theorem zw_X5_take : z_YV yX5_take := ⟨z_in 627 (by decide +kernel) rfl, z_in 37 (by decide +kernel) rfl⟩
theorem zy_X5_branch : z_Y yX5_branch cX5_branch 3 none 2 := ⟨⟨by decide +kernel, by decide +kernel, by decide +kernel⟩, z_in 87 (by decide +kernel) rfl, z_in 765 (by decide +kernel) rfl⟩
theorem zw_X5_branch : z_YV yX5_branch := ⟨z_in 764 (by decide +kernel) rfl, z_in 51 (by decide +kernel) rfl⟩
theorem zy_X5_drop : z_Y yX5_drop cX5_drop 3 none 1 := ⟨⟨by decide +kernel, by decide +kernel, by decide +kernel⟩, z_in 87 (by decide +kernel) rfl, z_in 714 (by decide +kernel) rfl⟩
theorem zw_X5_drop : z_YV yX5_drop := ⟨z_in 713 (by decide +kernel) rfl, z_in 45 (by decide +kernel) rfl⟩
theorem zy_X5_dropBehind : z_Y yX5_dropBehind cX5_dropBehind 4 (some .int) 1 := ⟨⟨by decide +kernel, by decide +kernel, by decide +kernel⟩, z_in 87 (by decide +kernel) rfl, z_in 741 (by decide +kernel) rfl⟩
theorem zw_X5_dropBehind : z_YV yX5_dropBehind := ⟨z_in 740 (by decide +kernel) rfl, z_in 49 (by decide +kernel) rfl⟩
theorem zy_X5_handOver : z_Y yX5_handOver cX5_handOver 6 none 2 := ⟨⟨by decide +kernel, by decide +kernel, by decide +kernel⟩, z_in 87 (by decide +kernel) rfl, z_in 784 (by decide +kernel) rfl⟩
theorem zw_X5_handOver : z_YV yX5_handOver := ⟨z_in 783 (by decide +kernel) rfl, z_in 52 (by decide +kernel) rfl⟩
theorem zy_J7_fill : z_Y yJ7_fill_53178 cJ7_fill_53178 4 none 2 := ⟨⟨by decide +kernel, by decide +kernel, by decide +kernel⟩, z_in 91 (by decide +kernel) rfl, z_in 155 (by decide +kernel) rfl⟩
theorem zs_J7_fill : Cond.static yJ7_fill_53178 ∈ z_TB := z_in 154 (by decide +kernel) rfl
theorem ze_io : z_E 142 146 "java/lang/IndexOutOfBoundsException" := ⟨by decide +kernel, z_in 401 (by decide +kernel) rfl, z_in 98 (by decide +kernel) rfl, by decide +kernel, by decide +kernel⟩
theorem ze_is : z_E 71 75 "java/lang/IllegalStateException" := ⟨by decide +kernel, z_in 504 (by decide +kernel) rfl, z_in 99 (by decide +kernel) rfl, by decide +kernel, by decide +kernel⟩
theorem ze_ia : z_E 95 99 "java/lang/IllegalArgumentException" := ⟨by decide +kernel, z_in 585 (by decide +kernel) rfl, z_in 100 (by decide +kernel) rfl, by decide +kernel, by decide +kernel⟩
end
section
/-! ===== the two JDK methods: Arrays.fill over ints (walked here), System.arraycopy (the kit's) ===== -/
theorem arrV_cg {cA : ClassId} {n : Nat} {f g : Nat → Int32} (h : ∀ j, j < n → f j = g j) : vp_cell cA (n, .inl f) = vp_cell cA (n, .inl g) := by
  rw [vp_cell_i, vp_cell_i]
  unfold arrV
  congr 2
  funext j
  show Value.int (f j.val) = Value.int (g j.val)
  rw [h j.val j.isLt]
theorem va_at_cg {D : va_G} {cl : List vw_C} {a : Nat} {cA : ClassId} {n : Nat} {f g : Nat → Int32} {H : Heap} (h : ∀ j, j < n → f j = g j) (ha : va_at D cl (a, .inl (cA, n, .inl f)) H) : va_at D cl (a, .inl (cA, n, .inl g)) H := by
  show H[a]? = _
  rw [← arrV_cg h]
  exact ha
set_option maxRecDepth 100000 in
set_option maxHeartbeats 4000000 in
theorem c_fill (l : Launch) (D : va_G) (cl : List vw_C) (cA : ClassId) (n : Nat) (hn : n < 2 ^ 31) (a sz : Nat) (f : Nat → Int32) (v : Int32) : Met l yJ7_fill_53178 [.code yJ7_fill_53178 cJ7_fill_53178 4 none] { frames := 0, cells := 0, slots := 0, locals := 0 } (va_Pc [.ref a, .int v] (fun U => U.heap.size = sz ∧ va_P D cl [(a, .inl (cA, n, .inl f))] U.heap ∧ va_K D cl [(cA, .int)] U)) (va_Qv (fun _ : Unit => True) (fun _ t => t.heap.size = sz ∧ va_P D cl [(a, .inl (cA, n, .inl (fun _ => v)))] t.heap) (fun q => q = a ∨ sz ≤ q)) 0 0 (fun q => q = a ∨ sz ≤ q) := by
  refine Met.ofW (cc := cJ7_fill_53178) (maxL := 4) (ret := none) (by decide) rfl ?_
  intro p e s m args below meth c s₁ B hml hv
  obtain ⟨rfl, hsz, hP, hK⟩ := hv
  have hx := B.exec
  have hb := B.bytes
  have hr := B.returns
  have hlocks := B.notSynchronized
  subst hsz
  have hl := lv_entry ([.ref a, .int v]) (n := 4) (Nat.le_of_ble_eq_true rfl)
  rw [lg_entry_eq]
  generalize (lg_sl ([.ref a, .int v]) ++ List.replicate (4 - (lg_sl ([.ref a, .int v])).length) Slot.unset).toArray = ls at hl ⊢
  have hl : lv_has ls 4 [(0, .ref a), (1, .int v)] := hl
  have hD : va_D (fun q => q = a ∨ s.heap.size ≤ q) [(a, .inl (cA, n, .inl f))] := ⟨fun i j p q hi hj _ => by
    have h1 : i < 1 := (List.getElem?_eq_some_iff.mp hi).1
    have h2 : j < 1 := (List.getElem?_eq_some_iff.mp hj).1
    omega, fun k q hk => by
    have h1 : k < 1 := (List.getElem?_eq_some_iff.mp hk).1
    have h2 : k = 0 := by omega
    subst h2
    cases hk
    exact Or.inl rfl⟩
  have hS : va_S (fun q => q = a ∨ s.heap.size ≤ q) s.heap s.heap [] := va_S.rf
  refine lv_iconst (v := 0) hx hb dJ7_fill_53178_0 rfl ?_
  refine lv_istore_n (lv' := [(2, .int 0), (0, .ref a), (1, .int v)]) hx hb dJ7_fill_53178_1 rfl hl (by decide) rfl (fun ls hl => ?_)
  refine lv_aload_n hx hb dJ7_fill_53178_2 rfl (lv_at hl 1 rfl) ?_
  refine va_alen (v := nI n) hx hb hK hP 0 0 rfl rfl rfl dJ7_fill_53178_3 ?_
  refine lv_istore_n (lv' := [(3, .int (nI n)), (2, .int 0), (0, .ref a), (1, .int v)]) hx hb dJ7_fill_53178_4 rfl hl (by decide) rfl (fun ls hl => ?_)
  have loop : ∀ (r j : Nat), j + r = n → ∀ (g : Nat → Int32) (H : Heap) (locs : List Loc) (ls : Array Slot), (∀ q, q < j → g q = v) → H.size = s.heap.size → va_P D cl [(a, .inl (cA, n, .inl g))] H → va_D (fun q => q = a ∨ s.heap.size ≤ q) [(a, .inl (cA, n, .inl g))] → va_S (fun q => q = a ∨ s.heap.size ≤ q) s.heap H locs → lv_has ls 4 [(3, .int (nI n)), (2, .int (nI j)), (0, .ref a), (1, .int v)] → W p l e (headSpec [.code yJ7_fill_53178 cJ7_fill_53178 4 none] { frames := 0, cells := 0, slots := 0, locals := 0 }).room s m [Value.ref a, Value.int v].toArray below meth c H locs 0 0 (MQ below (va_Qv (fun _ : Unit => True) (fun _ t => t.heap.size = s.heap.size ∧ va_P D cl [(a, .inl (cA, n, .inl (fun _ => v)))] t.heap) (fun q => q = a ∨ s.heap.size ≤ q)) [Value.ref a, Value.int v].toArray s 0 0 (fun q => q = a ∨ s.heap.size ≤ q)) (F0 m 5 ls []) := by
    intro r
    induction r with
    | zero =>
      intro j hj g H locs ls hg hsz hP hD hS hl
      refine lv_iload_n hx hb dJ7_fill_53178_5 rfl (lv_at hl 1 rfl) ?_
      refine lv_iload_n hx hb dJ7_fill_53178_6 rfl (lv_at hl 0 rfl) ?_
      refine lv_icmp_ge (tgt := 20) hx hb dJ7_fill_53178_7 (by decide) (fun _ => ?_) (fun c => absurd (nI_le (by omega) (by omega)) c)
      exact W.vret hx hb hr (fun t ht hW => ⟨⟨(), rfl, trivial, by rw [ht]; exact hsz, fun k q hk => by
        have h1 : k < 1 := (List.getElem?_eq_some_iff.mp hk).1
        have h2 : k = 0 := by omega
        subst h2
        cases hk
        rw [ht]
        exact va_at_cg (fun q hq => hg q (by omega)) (hP 0 _ rfl)⟩, hS.F ht⟩) hS.2.2 dJ7_fill_53178_20 hlocks
    | succ r ih =>
      intro j hj g H locs ls hg hsz hP hD hS hl
      refine lv_iload_n hx hb dJ7_fill_53178_5 rfl (lv_at hl 1 rfl) ?_
      refine lv_iload_n hx hb dJ7_fill_53178_6 rfl (lv_at hl 0 rfl) ?_
      refine lv_icmp_ge (tgt := 20) hx hb dJ7_fill_53178_7 (by decide) (fun c => absurd c (nI_ge (by omega) (by omega))) (fun _ => ?_)
      refine lv_aload_n hx hb dJ7_fill_53178_10 rfl (lv_at hl 2 rfl) ?_
      refine lv_iload_n hx hb dJ7_fill_53178_11 rfl (lv_at hl 1 rfl) ?_
      refine lv_iload_n hx hb dJ7_fill_53178_12 rfl (lv_at hl 3 rfl) ?_
      have hcell : H[a]? = some (vp_cell cA (n, .inl g)) := hP 0 _ rfl
      have hin : vp_in (nI j) n := vp_in_nI (by omega) (by omega)
      refine W.iast (cell := vp_cell cA (n, .inl g)) hx hb hcell ((hK.2 0 _ rfl).1 n (fun j => .int (g j))) (fun q => by cases q) (by show ¬ (nI j < 0 ∨ (arrV _ _ _).slots.size ≤ _); rw [arrV_size]; exact hin) rfl rfl dJ7_fill_53178_13 (fun H1 e z oq => ?_)
      refine W.eq (g2 := F0 m 14 ls []) rfl ?_
      have hat : va_at D cl (a, .inl (cA, n, .inl (upd g (nI j).toNatClampNeg v))) H1 := by
        show H1[a]? = some (vp_cell cA (n, .inl (upd g (nI j).toNatClampNeg v)))
        rw [e, vp_cell_i, vp_cell_i, arrV_store]
        congr 2
        funext q
        by_cases hq : q = (nI j).toNatClampNeg
        · subst hq
          simp [updV, upd]
        · simp [updV, upd, hq]
      have hP1 := hP.set hD (p := 0) rfl hat oq
      have hD1 := hD.set (p := 0) (e := .inl (cA, n, .inl (upd g (nI j).toNatClampNeg v))) rfl
      have hS1 := hS.put (k := (nI j).toNatClampNeg) z oq (Or.inl rfl)
      have hsz1 : H1.size = s.heap.size := z.trans hsz
      refine lv_iinc (v := nI (j + 1)) (lv' := [(2, .int (nI (j + 1))), (3, .int (nI n)), (0, .ref a), (1, .int v)]) hx hb dJ7_fill_53178_14 hl (k := 1) rfl (nI_1 j) (by decide) rfl (fun ls hl => ?_)
      refine lv_goto (tgt := 5) hx hb dJ7_fill_53178_17 (by decide) ?_
      refine ih (j + 1) (by omega) _ H1 _ ls (fun q hq => ?_) hsz1 hP1 hD1 hS1 (lv_sub hl [1, 0, 2, 3] rfl)
      rw [nI_clamp (by omega)]
      unfold upd
      by_cases h : q = j
      · rw [if_pos h]
      · rw [if_neg h]
        exact hg q (by omega)
  exact loop n 0 (by omega) f s.heap [] ls (fun q hq => absurd hq (Nat.not_lt_zero q)) rfl hP hD hS hl
def z_fill (M : zM) (k : Nat) (v : Int32) : zM := fun a => if a = k then (fun _ => v) else M a
def z_cpy (M : zM) (k0 k : Nat) (n : Int32) : zM := fun a => if a = k then va_cpy (M k0) (M k) 0 0 n.toNatClampNeg else M a
theorem kc_nat : Cond.native arraycopyName ∈ z_TB := z_in 337 (by decide +kernel) rfl
theorem kc_st : Cond.static arraycopyName ∈ z_TB := z_in 336 (by decide +kernel) rfl
theorem kc_in : Cond.initialized "java/lang/System" ∈ z_TB := z_in 101 (by decide +kernel) rfl
theorem kc_X4_21 : Cond.methodLink RX4 21 arraycopyName ∈ z_TB := z_in 335 (by decide +kernel) rfl
theorem kc_X3_43 : Cond.methodLink RX3 43 arraycopyName ∈ z_TB := z_in 347 (by decide +kernel) rfl
theorem r_copy {Γ : zC} {G : zG} {b nL cs ss pc : Nat} {cc : ByteArray} {own : String} {rm : Room} {M : zM} {lv : List (Nat × Value)} {st : List Value} {k0 k idx nn : Nat} {n : Int32} {M1 : zM} (X : z_CX Γ G b nL cc own rm) (hk0 : z_kd k0 = 8) (hn0 : z_ln k0 = nn) (hk : z_kd k = 8) (hn : z_ln k = nn) (h1 : ¬ (0 : Int32) < 0) (h2 : ¬ (0 : Int32) < 0) (h3 : ¬ n < 0) (h4 : n.toNatClampNeg = nn) (hfr : 1 ≤ rm.frames ∧ (st.map fun v => v.category).sum + (nativeFrameWords "java/lang/System" "arraycopy" 5 + 11) ≤ rm.locals) (hl : Cond.methodLink own idx arraycopyName ∈ z_TB) (hM : z_cpy M k0 k n = M1) (hd : decode cc pc = .ok (.invokestatic idx, 3)) (pc' : Nat) (hp : pc + 3 = pc') (K : GW Γ G b cs ss M1 pc' lv st) : GW Γ G b cs ss M pc lv (.int n :: .int 0 :: .ref (b + k) :: .int 0 :: .ref (b + k0) :: st) := by
  obtain ⟨p, l, e, R, s, m, args, below, meth, c0, Q⟩ := Γ
  subst hp
  subst hM
  obtain ⟨hx, hb, hml, hown, hT, hK, hX, hRm, -⟩ := X
  intro H locs ls hW hS hl9
  have e0 : (0 : Int32).toNatClampNeg = 0 := rfl
  refine va_copyi (D := (G.1, G.2.1)) (cl := vwCl) (n0 := nn) (n1 := nn) (f := M k0) (g := M k) hx hb hl9.1.symm hown (hT.use hl) (hT.use kc_nat) (hT.use kc_st) (hT.use kc_in) hK (z_WP hW) z_WD hS k0 k 0 0 ((z_wl_get (z_lt rfl hk0)).trans (by rw [z_ent_a hk0 (by decide), hn0]; rfl)) ((z_wl_get (z_lt rfl hk)).trans (by rw [z_ent_a hk (by decide), hn]; rfl)) rfl rfl rfl h1 h2 h3 (by rw [e0, h4]; omega) (by rw [e0, h4]; omega) (fun i _ => rfl) (by rw [hRm]; exact hfr.1) (by rw [hRm]; exact hfr.2) hd (fun H1 locs1 hP1 _ hS1 => K H1 locs1 ls (z_Wset (z_lt rfl hk) hP1 ?_ (fun a ha => if_neg ha)) hS1 hl9)
  rw [z_ent_a hk (by decide), hn]
  show _ = Sum.inl (_, (nn, Sum.inl (z_cpy M k0 k n k)))
  unfold z_cpy
  rw [if_pos rfl]
  rfl
theorem r_fill {Γ : zC} {G : zG} {b nL cs ss pc : Nat} {cc : ByteArray} {own : String} {rm : Room} {M : zM} {lv : List (Nat × Value)} {st : List Value} {k idx n : Nat} {v : Int32} {M1 : zM} (X : z_CX Γ G b nL cc own rm) (hk : z_kd k = 8) (hn : z_ln k = n) (hl : Cond.methodLink own idx yJ7_fill_53178 ∈ z_TB) (hn2 : n < 2 ^ 31) (hR : (1 : Nat).ble rm.frames = true ∧ (23 : Nat).ble rm.locals = true) (hM : z_fill M k v = M1) (hro : cs ≤ rm.cells ∧ ss ≤ rm.slots) (hrs : (st.map fun v => v.category).sum ≤ 8) (hd : decode cc pc = .ok (.invokestatic idx, 3)) (pc' : Nat) (hp : pc + 3 = pc') (K : GW Γ G b cs ss M1 pc' lv st) : GW Γ G b cs ss M pc lv (.int v :: .ref (b + k) :: st) := by
  obtain ⟨p, l, e, R, s, m, args, below, meth, c0, Q⟩ := Γ
  subst hp
  subst hM
  obtain ⟨hx, hb, hml, hown, hT, hK, hX, hRm, -⟩ := X
  intro H locs ls hW hS hl9
  have hlt : k < 175 := z_lt rfl hk
  have hG : GoodIn z_TB (va_wsS own idx yJ7_fill_53178 [.code yJ7_fill_53178 cJ7_fill_53178 4 none]) := by
    intro w hw
    simp only [va_wsS, List.cons_append, List.nil_append, List.mem_cons, List.not_mem_nil, or_false] at hw
    rcases hw with rfl | rfl | rfl | rfl
    · exact ⟨hl, good_of_word rfl⟩
    · exact ⟨zs_J7_fill, good_of_word rfl⟩
    · exact ⟨zy_J7_fill.2.1, good_of_word rfl⟩
    · exact ⟨zy_J7_fill.2.2, good_of_word rfl⟩
  have hcell := hW k hlt
  rw [z_ent_a hk (by decide), hn] at hcell
  have hPc : va_P (G.1, G.2.1) vwCl [(b + k, .inl (G.2.2 8, n, .inl (M k)))] H := fun i q hi => by
    have h1 : i < 1 := (List.getElem?_eq_some_iff.mp hi).1
    have h2 : i = 0 := by omega
    subst h2
    cases hi
    exact hcell
  have hKc : va_K (G.1, G.2.1) vwCl [(G.2.2 8, .int)] s := hK.sub [0] rfl
  refine va_callv (A0 := fun q => b ≤ q) (H0 := s.heap) (va_runS (cc := cc) (nL := nL) (As := [.ref (b + k), .int v]) (rest := st) ⟨hx, hb, hml, hown, fun w (hw : w ∈ z_TB) => hT.use hw⟩ (c_fill l (G.1, G.2.1) vwCl (G.2.2 8) n hn2 (b + k) H.size (M k) v) (va_cwS 2 (fun w (hw : w ∈ z_TB) => hT.use hw) hG rfl rfl rfl zy_J7_fill.1 (by rw [hRm]; exact ⟨Nat.le_of_ble_eq_true hR.1, Nat.le_of_ble_eq_true hR.2⟩)) ⟨fun a U g mk q => by obtain ⟨q0, q1, q2, q3⟩ := q; exact ⟨q0, q1, q2, va_K.moved (u := U) (U := U.calling g mk a) (Vm.Alike.refl U.vm) q3⟩, fun U hU hw => ⟨rfl, by rw [hU], by rw [hU]; exact hPc, va_K.moved hw.alike hKc⟩⟩ rfl rfl (hl9.1.trans hml) rfl (lv_room hrs) hd (by rw [hRm]; exact hro)) hS (fun q h1 h2 => ?_) (fun q h2 => ?_) (fun u t H1 locs1 ht hvm _ hB hz hk1 hS1 => ?_)
  · rcases h2 with rfl | h2
    · exact Nat.le_add_right b k
    · omega
  · rcases h2 with rfl | h2
    · exact Nat.le_add_right b k
    · exact Nat.le_trans (Nat.le_add_right b 0) (Nat.le_trans (by have := (hW 0 (by decide)).lt; omega) h2)
  · refine K H1 locs1 ls (fun j hj => ?_) hS1 hl9
    by_cases hjk : j = k
    · subst hjk
      have h9 := hB.2 0 _ rfl
      rw [ht] at h9
      rw [z_ent_a hk (by decide), hn]
      show va_at _ _ (b + j, Sum.inl (_, (n, Sum.inl (z_fill M j v j)))) H1
      unfold z_fill
      rw [if_pos rfl]
      exact h9
    · have h8 : z_ent G b (z_fill M k v) j = z_ent G b M j := by
        unfold z_ent z_fill
        rw [if_neg hjk]
      rw [h8]
      refine (hW j hj).kept (hk1 _ (hW j hj).lt (fun h => ?_))
      rcases h with h | h
      · exact hjk (Nat.add_left_cancel h)
      · exact absurd (hW j hj).lt (Nat.not_lt.mpr h)
end
