section
-- ===== PART A: goes FIRST, ahead of the names: the tables' words, and 'selects' of the private methods out of them =====
/-- a private method of a class that the tables say can be made, by its rows of tables_1 -/
def lw_okq (q : MethodName × Nat) : Prop := (q.1.cls ≠ "java/lang/invoke/MethodHandle" ∧ q.1.cls ≠ "java/lang/invoke/VarHandle") ∧ Cond.instantiable q.1.cls q.2 ∈ tables_1 ∧ Cond.privateMethod q.1 ∈ tables_1 ∧ Cond.instanceMethod q.1 ∈ tables_1
theorem lw_p0 : lw_okq (⟨"SaturdaySale", "refusalOf", "(Z)I"⟩, 14) := ⟨⟨by decide +kernel, by decide +kernel⟩, List.mem_of_getElem? (i := 13) (by decide +kernel), List.mem_of_getElem? (i := 299) (by decide +kernel), List.mem_of_getElem? (i := 300) (by decide +kernel)⟩
theorem lw_p1 : lw_okq (⟨"SaturdaySale$Walk", "begin", "(LSaturdaySale$Sale;)V"⟩, 3) := ⟨⟨by decide +kernel, by decide +kernel⟩, List.mem_of_getElem? (i := 106) (by decide +kernel), List.mem_of_getElem? (i := 308) (by decide +kernel), List.mem_of_getElem? (i := 309) (by decide +kernel)⟩
theorem lw_p2 : lw_okq (⟨"SaturdaySale$Walk", "openDay", "(I)V"⟩, 3) := ⟨⟨by decide +kernel, by decide +kernel⟩, List.mem_of_getElem? (i := 106) (by decide +kernel), List.mem_of_getElem? (i := 312) (by decide +kernel), List.mem_of_getElem? (i := 313) (by decide +kernel)⟩
theorem lw_p3 : lw_okq (⟨"SaturdaySale$Walk", "passBuyer", "(III)V"⟩, 3) := ⟨⟨by decide +kernel, by decide +kernel⟩, List.mem_of_getElem? (i := 106) (by decide +kernel), List.mem_of_getElem? (i := 324) (by decide +kernel), List.mem_of_getElem? (i := 325) (by decide +kernel)⟩
theorem lw_p4 : lw_okq (⟨"SaturdaySale", "isDay", "(I)Z"⟩, 14) := ⟨⟨by decide +kernel, by decide +kernel⟩, List.mem_of_getElem? (i := 13) (by decide +kernel), List.mem_of_getElem? (i := 348) (by decide +kernel), List.mem_of_getElem? (i := 349) (by decide +kernel)⟩
theorem lw_p5 : lw_okq (⟨"SaturdaySale", "findBest", "()V"⟩, 14) := ⟨⟨by decide +kernel, by decide +kernel⟩, List.mem_of_getElem? (i := 13) (by decide +kernel), List.mem_of_getElem? (i := 352) (by decide +kernel), List.mem_of_getElem? (i := 353) (by decide +kernel)⟩
theorem lw_p6 : lw_okq (⟨"SaturdaySale$Table", "fillEnd", "(LSaturdaySale$Sale;)V"⟩, 3) := ⟨⟨by decide +kernel, by decide +kernel⟩, List.mem_of_getElem? (i := 83) (by decide +kernel), List.mem_of_getElem? (i := 360) (by decide +kernel), List.mem_of_getElem? (i := 361) (by decide +kernel)⟩
theorem lw_p7 : lw_okq (⟨"SaturdaySale$Table", "rowFor", "(LSaturdaySale$Sale;II)V"⟩, 3) := ⟨⟨by decide +kernel, by decide +kernel⟩, List.mem_of_getElem? (i := 83) (by decide +kernel), List.mem_of_getElem? (i := 364) (by decide +kernel), List.mem_of_getElem? (i := 365) (by decide +kernel)⟩
theorem lw_p8 : lw_okq (⟨"SaturdaySale$Table", "backByBuyer", "(IJ)V"⟩, 3) := ⟨⟨by decide +kernel, by decide +kernel⟩, List.mem_of_getElem? (i := 83) (by decide +kernel), List.mem_of_getElem? (i := 371) (by decide +kernel), List.mem_of_getElem? (i := 372) (by decide +kernel)⟩
theorem lw_p9 : lw_okq (⟨"SaturdaySale$Table", "takeGreater", "(II)V"⟩, 3) := ⟨⟨by decide +kernel, by decide +kernel⟩, List.mem_of_getElem? (i := 83) (by decide +kernel), List.mem_of_getElem? (i := 376) (by decide +kernel), List.mem_of_getElem? (i := 377) (by decide +kernel)⟩
theorem lw_p10 : lw_okq (⟨"SaturdaySale", "promised", "(I)LSaturdaySale$Greatest;"⟩, 14) := ⟨⟨by decide +kernel, by decide +kernel⟩, List.mem_of_getElem? (i := 13) (by decide +kernel), List.mem_of_getElem? (i := 392) (by decide +kernel), List.mem_of_getElem? (i := 393) (by decide +kernel)⟩
theorem lw_p11 : lw_okq (⟨"SaturdaySale", "findMet", "()V"⟩, 14) := ⟨⟨by decide +kernel, by decide +kernel⟩, List.mem_of_getElem? (i := 13) (by decide +kernel), List.mem_of_getElem? (i := 396) (by decide +kernel), List.mem_of_getElem? (i := 397) (by decide +kernel)⟩
theorem lw_p12 : lw_okq (⟨"SaturdaySale$Walk", "pickAll", "(LSaturdaySale$Sale;[I)V"⟩, 3) := ⟨⟨by decide +kernel, by decide +kernel⟩, List.mem_of_getElem? (i := 106) (by decide +kernel), List.mem_of_getElem? (i := 412) (by decide +kernel), List.mem_of_getElem? (i := 413) (by decide +kernel)⟩
theorem lw_p13 : lw_okq (⟨"SaturdaySale$Walk", "passThoseOf", "(ILSaturdaySale$Sale;II)V"⟩, 3) := ⟨⟨by decide +kernel, by decide +kernel⟩, List.mem_of_getElem? (i := 106) (by decide +kernel), List.mem_of_getElem? (i := 421) (by decide +kernel), List.mem_of_getElem? (i := 422) (by decide +kernel)⟩
theorem lw_p14 : lw_okq (⟨"SaturdaySale", "findKept", "()V"⟩, 14) := ⟨⟨by decide +kernel, by decide +kernel⟩, List.mem_of_getElem? (i := 13) (by decide +kernel), List.mem_of_getElem? (i := 434) (by decide +kernel), List.mem_of_getElem? (i := 435) (by decide +kernel)⟩
theorem lw_p15 : lw_okq (⟨"SaturdaySale", "promiseMean", "(I)J"⟩, 14) := ⟨⟨by decide +kernel, by decide +kernel⟩, List.mem_of_getElem? (i := 13) (by decide +kernel), List.mem_of_getElem? (i := 446) (by decide +kernel), List.mem_of_getElem? (i := 447) (by decide +kernel)⟩
def lw_privs_1 : List (MethodName × Nat) := [(⟨"SaturdaySale", "refusalOf", "(Z)I"⟩, 14), (⟨"SaturdaySale$Walk", "begin", "(LSaturdaySale$Sale;)V"⟩, 3), (⟨"SaturdaySale$Walk", "openDay", "(I)V"⟩, 3), (⟨"SaturdaySale$Walk", "passBuyer", "(III)V"⟩, 3), (⟨"SaturdaySale", "isDay", "(I)Z"⟩, 14), (⟨"SaturdaySale", "findBest", "()V"⟩, 14), (⟨"SaturdaySale$Table", "fillEnd", "(LSaturdaySale$Sale;)V"⟩, 3), (⟨"SaturdaySale$Table", "rowFor", "(LSaturdaySale$Sale;II)V"⟩, 3), (⟨"SaturdaySale$Table", "backByBuyer", "(IJ)V"⟩, 3), (⟨"SaturdaySale$Table", "takeGreater", "(II)V"⟩, 3), (⟨"SaturdaySale", "promised", "(I)LSaturdaySale$Greatest;"⟩, 14), (⟨"SaturdaySale", "findMet", "()V"⟩, 14), (⟨"SaturdaySale$Walk", "pickAll", "(LSaturdaySale$Sale;[I)V"⟩, 3), (⟨"SaturdaySale$Walk", "passThoseOf", "(ILSaturdaySale$Sale;II)V"⟩, 3), (⟨"SaturdaySale", "findKept", "()V"⟩, 14), (⟨"SaturdaySale", "promiseMean", "(I)J"⟩, 14)]
theorem lw_r1 : ∀ q ∈ lw_privs_1, lw_okq q := List.forall_mem_cons.mpr ⟨lw_p0, List.forall_mem_cons.mpr ⟨lw_p1, List.forall_mem_cons.mpr ⟨lw_p2, List.forall_mem_cons.mpr ⟨lw_p3, List.forall_mem_cons.mpr ⟨lw_p4, List.forall_mem_cons.mpr ⟨lw_p5, List.forall_mem_cons.mpr ⟨lw_p6, List.forall_mem_cons.mpr ⟨lw_p7, List.forall_mem_cons.mpr ⟨lw_p8, List.forall_mem_cons.mpr ⟨lw_p9, List.forall_mem_cons.mpr ⟨lw_p10, List.forall_mem_cons.mpr ⟨lw_p11, List.forall_mem_cons.mpr ⟨lw_p12, List.forall_mem_cons.mpr ⟨lw_p13, List.forall_mem_cons.mpr ⟨lw_p14, List.forall_mem_cons.mpr ⟨lw_p15, fun _ h => absurd h List.not_mem_nil⟩⟩⟩⟩⟩⟩⟩⟩⟩⟩⟩⟩⟩⟩⟩⟩
theorem lw_p16 : lw_okq (⟨"SaturdaySale$Table", "takeAsked", "(II)V"⟩, 3) := ⟨⟨by decide +kernel, by decide +kernel⟩, List.mem_of_getElem? (i := 83) (by decide +kernel), List.mem_of_getElem? (i := 462) (by decide +kernel), List.mem_of_getElem? (i := 463) (by decide +kernel)⟩
theorem lw_p17 : lw_okq (⟨"SaturdaySale$Rule", "readInClause", "(II)V"⟩, 7) := ⟨⟨by decide +kernel, by decide +kernel⟩, List.mem_of_getElem? (i := 169) (by decide +kernel), List.mem_of_getElem? (i := 516) (by decide +kernel), List.mem_of_getElem? (i := 517) (by decide +kernel)⟩
theorem lw_p18 : lw_okq (⟨"SaturdaySale", "ruleRefusalOf", "(Z)I"⟩, 14) := ⟨⟨by decide +kernel, by decide +kernel⟩, List.mem_of_getElem? (i := 13) (by decide +kernel), List.mem_of_getElem? (i := 526) (by decide +kernel), List.mem_of_getElem? (i := 527) (by decide +kernel)⟩
theorem lw_p19 : lw_okq (⟨"SaturdaySale$Rule", "isSo", "(II)Z"⟩, 7) := ⟨⟨by decide +kernel, by decide +kernel⟩, List.mem_of_getElem? (i := 169) (by decide +kernel), List.mem_of_getElem? (i := 534) (by decide +kernel), List.mem_of_getElem? (i := 535) (by decide +kernel)⟩
theorem lw_p20 : lw_okq (⟨"SaturdaySale", "findBoy", "()V"⟩, 14) := ⟨⟨by decide +kernel, by decide +kernel⟩, List.mem_of_getElem? (i := 13) (by decide +kernel), List.mem_of_getElem? (i := 545) (by decide +kernel), List.mem_of_getElem? (i := 546) (by decide +kernel)⟩
theorem lw_p21 : lw_okq (⟨"SaturdaySale", "isOtherWith", "(II)Z"⟩, 14) := ⟨⟨by decide +kernel, by decide +kernel⟩, List.mem_of_getElem? (i := 13) (by decide +kernel), List.mem_of_getElem? (i := 562) (by decide +kernel), List.mem_of_getElem? (i := 563) (by decide +kernel)⟩
theorem lw_p22 : lw_okq (⟨"SaturdaySaleModel", "isSort", "(I)Z"⟩, 29) := ⟨⟨by decide +kernel, by decide +kernel⟩, List.mem_of_getElem? (i := 570) (by decide +kernel), List.mem_of_getElem? (i := 689) (by decide +kernel), List.mem_of_getElem? (i := 690) (by decide +kernel)⟩
theorem lw_p23 : lw_okq (⟨"SaturdaySaleModel", "worthOf", "(II)I"⟩, 29) := ⟨⟨by decide +kernel, by decide +kernel⟩, List.mem_of_getElem? (i := 570) (by decide +kernel), List.mem_of_getElem? (i := 700) (by decide +kernel), List.mem_of_getElem? (i := 701) (by decide +kernel)⟩
theorem lw_p24 : lw_okq (⟨"SaturdaySaleModel", "layPlan", "()V"⟩, 29) := ⟨⟨by decide +kernel, by decide +kernel⟩, List.mem_of_getElem? (i := 570) (by decide +kernel), List.mem_of_getElem? (i := 717) (by decide +kernel), List.mem_of_getElem? (i := 718) (by decide +kernel)⟩
theorem lw_p25 : lw_okq (⟨"SaturdaySaleModel", "bringFrom", "(I)V"⟩, 29) := ⟨⟨by decide +kernel, by decide +kernel⟩, List.mem_of_getElem? (i := 570) (by decide +kernel), List.mem_of_getElem? (i := 721) (by decide +kernel), List.mem_of_getElem? (i := 722) (by decide +kernel)⟩
theorem lw_p26 : lw_okq (⟨"SaturdaySaleModel", "beginEnd", "()V"⟩, 29) := ⟨⟨by decide +kernel, by decide +kernel⟩, List.mem_of_getElem? (i := 570) (by decide +kernel), List.mem_of_getElem? (i := 725) (by decide +kernel), List.mem_of_getElem? (i := 726) (by decide +kernel)⟩
theorem lw_p27 : lw_okq (⟨"SaturdaySaleModel", "dayAt", "(II)V"⟩, 29) := ⟨⟨by decide +kernel, by decide +kernel⟩, List.mem_of_getElem? (i := 570) (by decide +kernel), List.mem_of_getElem? (i := 729) (by decide +kernel), List.mem_of_getElem? (i := 730) (by decide +kernel)⟩
theorem lw_p28 : lw_okq (⟨"SaturdaySaleModel", "buyer", "(II)V"⟩, 29) := ⟨⟨by decide +kernel, by decide +kernel⟩, List.mem_of_getElem? (i := 570) (by decide +kernel), List.mem_of_getElem? (i := 733) (by decide +kernel), List.mem_of_getElem? (i := 734) (by decide +kernel)⟩
theorem lw_p29 : lw_okq (⟨"SaturdaySaleModel", "findOdds", "(I)V"⟩, 29) := ⟨⟨by decide +kernel, by decide +kernel⟩, List.mem_of_getElem? (i := 570) (by decide +kernel), List.mem_of_getElem? (i := 744) (by decide +kernel), List.mem_of_getElem? (i := 745) (by decide +kernel)⟩
theorem lw_p30 : lw_okq (⟨"SaturdaySaleModel", "findBest", "()V"⟩, 29) := ⟨⟨by decide +kernel, by decide +kernel⟩, List.mem_of_getElem? (i := 570) (by decide +kernel), List.mem_of_getElem? (i := 752) (by decide +kernel), List.mem_of_getElem? (i := 753) (by decide +kernel)⟩
theorem lw_p31 : lw_okq (⟨"SaturdaySaleModel", "keepRow", "(I)V"⟩, 29) := ⟨⟨by decide +kernel, by decide +kernel⟩, List.mem_of_getElem? (i := 570) (by decide +kernel), List.mem_of_getElem? (i := 756) (by decide +kernel), List.mem_of_getElem? (i := 757) (by decide +kernel)⟩
def lw_privs_2 : List (MethodName × Nat) := [(⟨"SaturdaySale$Table", "takeAsked", "(II)V"⟩, 3), (⟨"SaturdaySale$Rule", "readInClause", "(II)V"⟩, 7), (⟨"SaturdaySale", "ruleRefusalOf", "(Z)I"⟩, 14), (⟨"SaturdaySale$Rule", "isSo", "(II)Z"⟩, 7), (⟨"SaturdaySale", "findBoy", "()V"⟩, 14), (⟨"SaturdaySale", "isOtherWith", "(II)Z"⟩, 14), (⟨"SaturdaySaleModel", "isSort", "(I)Z"⟩, 29), (⟨"SaturdaySaleModel", "worthOf", "(II)I"⟩, 29), (⟨"SaturdaySaleModel", "layPlan", "()V"⟩, 29), (⟨"SaturdaySaleModel", "bringFrom", "(I)V"⟩, 29), (⟨"SaturdaySaleModel", "beginEnd", "()V"⟩, 29), (⟨"SaturdaySaleModel", "dayAt", "(II)V"⟩, 29), (⟨"SaturdaySaleModel", "buyer", "(II)V"⟩, 29), (⟨"SaturdaySaleModel", "findOdds", "(I)V"⟩, 29), (⟨"SaturdaySaleModel", "findBest", "()V"⟩, 29), (⟨"SaturdaySaleModel", "keepRow", "(I)V"⟩, 29)]
theorem lw_r2 : ∀ q ∈ lw_privs_2, lw_okq q := List.forall_mem_cons.mpr ⟨lw_p16, List.forall_mem_cons.mpr ⟨lw_p17, List.forall_mem_cons.mpr ⟨lw_p18, List.forall_mem_cons.mpr ⟨lw_p19, List.forall_mem_cons.mpr ⟨lw_p20, List.forall_mem_cons.mpr ⟨lw_p21, List.forall_mem_cons.mpr ⟨lw_p22, List.forall_mem_cons.mpr ⟨lw_p23, List.forall_mem_cons.mpr ⟨lw_p24, List.forall_mem_cons.mpr ⟨lw_p25, List.forall_mem_cons.mpr ⟨lw_p26, List.forall_mem_cons.mpr ⟨lw_p27, List.forall_mem_cons.mpr ⟨lw_p28, List.forall_mem_cons.mpr ⟨lw_p29, List.forall_mem_cons.mpr ⟨lw_p30, List.forall_mem_cons.mpr ⟨lw_p31, fun _ h => absurd h List.not_mem_nil⟩⟩⟩⟩⟩⟩⟩⟩⟩⟩⟩⟩⟩⟩⟩⟩
theorem lw_p32 : lw_okq (⟨"SaturdaySaleModel", "findKept", "(I)J"⟩, 29) := ⟨⟨by decide +kernel, by decide +kernel⟩, List.mem_of_getElem? (i := 570) (by decide +kernel), List.mem_of_getElem? (i := 775) (by decide +kernel), List.mem_of_getElem? (i := 776) (by decide +kernel)⟩
theorem lw_p33 : lw_okq (⟨"SaturdaySaleModel", "isOnce", "()Z"⟩, 29) := ⟨⟨by decide +kernel, by decide +kernel⟩, List.mem_of_getElem? (i := 570) (by decide +kernel), List.mem_of_getElem? (i := 779) (by decide +kernel), List.mem_of_getElem? (i := 780) (by decide +kernel)⟩
theorem lw_p34 : lw_okq (⟨"SaturdaySaleModel", "meet", "()V"⟩, 29) := ⟨⟨by decide +kernel, by decide +kernel⟩, List.mem_of_getElem? (i := 570) (by decide +kernel), List.mem_of_getElem? (i := 783) (by decide +kernel), List.mem_of_getElem? (i := 784) (by decide +kernel)⟩
theorem lw_p35 : lw_okq (⟨"SaturdaySaleModel", "pickOf", "(II)I"⟩, 29) := ⟨⟨by decide +kernel, by decide +kernel⟩, List.mem_of_getElem? (i := 570) (by decide +kernel), List.mem_of_getElem? (i := 787) (by decide +kernel), List.mem_of_getElem? (i := 788) (by decide +kernel)⟩
theorem lw_p36 : lw_okq (⟨"SaturdaySaleModel", "nextPlan", "()Z"⟩, 29) := ⟨⟨by decide +kernel, by decide +kernel⟩, List.mem_of_getElem? (i := 570) (by decide +kernel), List.mem_of_getElem? (i := 791) (by decide +kernel), List.mem_of_getElem? (i := 792) (by decide +kernel)⟩
theorem lw_p37 : lw_okq (⟨"SaturdaySaleModel", "isReady", "()Z"⟩, 29) := ⟨⟨by decide +kernel, by decide +kernel⟩, List.mem_of_getElem? (i := 570) (by decide +kernel), List.mem_of_getElem? (i := 843) (by decide +kernel), List.mem_of_getElem? (i := 844) (by decide +kernel)⟩
theorem lw_p38 : lw_okq (⟨"SaturdaySaleModel", "askedAt", "(II)I"⟩, 29) := ⟨⟨by decide +kernel, by decide +kernel⟩, List.mem_of_getElem? (i := 570) (by decide +kernel), List.mem_of_getElem? (i := 847) (by decide +kernel), List.mem_of_getElem? (i := 848) (by decide +kernel)⟩
theorem lw_p39 : lw_okq (⟨"SaturdaySaleModel", "findBoy", "()V"⟩, 29) := ⟨⟨by decide +kernel, by decide +kernel⟩, List.mem_of_getElem? (i := 570) (by decide +kernel), List.mem_of_getElem? (i := 855) (by decide +kernel), List.mem_of_getElem? (i := 856) (by decide +kernel)⟩
theorem lw_p40 : lw_okq (⟨"SaturdaySaleModel", "beginPrice", "()I"⟩, 29) := ⟨⟨by decide +kernel, by decide +kernel⟩, List.mem_of_getElem? (i := 570) (by decide +kernel), List.mem_of_getElem? (i := 867) (by decide +kernel), List.mem_of_getElem? (i := 868) (by decide +kernel)⟩
def lw_privs_3 : List (MethodName × Nat) := [(⟨"SaturdaySaleModel", "findKept", "(I)J"⟩, 29), (⟨"SaturdaySaleModel", "isOnce", "()Z"⟩, 29), (⟨"SaturdaySaleModel", "meet", "()V"⟩, 29), (⟨"SaturdaySaleModel", "pickOf", "(II)I"⟩, 29), (⟨"SaturdaySaleModel", "nextPlan", "()Z"⟩, 29), (⟨"SaturdaySaleModel", "isReady", "()Z"⟩, 29), (⟨"SaturdaySaleModel", "askedAt", "(II)I"⟩, 29), (⟨"SaturdaySaleModel", "findBoy", "()V"⟩, 29), (⟨"SaturdaySaleModel", "beginPrice", "()I"⟩, 29)]
theorem lw_r3 : ∀ q ∈ lw_privs_3, lw_okq q := List.forall_mem_cons.mpr ⟨lw_p32, List.forall_mem_cons.mpr ⟨lw_p33, List.forall_mem_cons.mpr ⟨lw_p34, List.forall_mem_cons.mpr ⟨lw_p35, List.forall_mem_cons.mpr ⟨lw_p36, List.forall_mem_cons.mpr ⟨lw_p37, List.forall_mem_cons.mpr ⟨lw_p38, List.forall_mem_cons.mpr ⟨lw_p39, List.forall_mem_cons.mpr ⟨lw_p40, fun _ h => absurd h List.not_mem_nil⟩⟩⟩⟩⟩⟩⟩⟩⟩
def lw_privs : List (MethodName × Nat) := lw_privs_1 ++ (lw_privs_2 ++ (lw_privs_3))
def lw_tbl : List Cond := k2_sels lw_privs ++ tables_1
theorem lw_privs_ok : ∀ q ∈ lw_privs, lw_okq q := by
  show ∀ q ∈ lw_privs_1 ++ (lw_privs_2 ++ (lw_privs_3)), lw_okq q
  exact List.forall_mem_append.mpr ⟨lw_r1, List.forall_mem_append.mpr ⟨lw_r2, lw_r3⟩⟩
end
section
/-! ===== BEGIN words of one list among another's, by their places ===== -/
theorem goodIn_r {big : List Cond} (ws : List Cond) (ps : List Nat) (hp : ws = ps.filterMap (fun i => big[i]?)) (h : ws.all goodWord = true) : GoodIn big ws := by
  intro w hw
  have h1 := List.all_eq_true.mp h w hw
  rw [hp] at hw
  obtain ⟨i, -, hi⟩ := List.mem_filterMap.mp hw
  have hm : w ∈ big := by first | exact List.mem_of_getElem? hi | exact List.getElem?_mem hi
  exact ⟨hm, good_of_word h1⟩
theorem goodIn_app {big a b : List Cond} (ha : GoodIn big a) (hb : GoodIn big b) : GoodIn big (a ++ b) := fun w h => (List.mem_append.mp h).elim (ha w) (hb w)
theorem goodIn_ca {big a b : List Cond} {c : Cond} (ha : GoodIn big (c :: a)) (hb : GoodIn big b) : GoodIn big (c :: (a ++ b)) := fun w h => (List.mem_cons.mp h).elim (fun e => ha w (List.mem_cons.mpr (Or.inl e))) (fun h => (List.mem_append.mp h).elim (fun h => ha w (List.mem_cons.mpr (Or.inr h))) (hb w))
theorem goodIn_sub {big ws : List Cond} (hm : ∀ w ∈ ws, w ∈ big) (h : ws.all goodWord = true) : GoodIn big ws := fun w hw => ⟨hm w hw, good_of_word (List.all_eq_true.mp h w hw)⟩
/-! ===== END ===== -/

def RX0 : String := "SaturdaySale$FallingPlans"
def TX0 : u_T := fun k => match k with
  | _ => ("SaturdaySale$FallingPlans", "numbers", "[I", true)
def tyX0 : Nat → FieldType := fun k => match k with
  | _ => .array .int
abbrev wsX00 : List Cond := u_ws RX0 TX0 1
theorem nmX0 : ∀ a, a < 1 → ∀ b, b < 1 → a ≠ b → (TX0 a).2.1 ≠ (TX0 b).2.1 := by decide +kernel
theorem tyX0_ok : ∀ k, k < 1 → parseFieldDescriptor (TX0 k).2.2.1 = some (tyX0 k) := by decide +kernel
abbrev cX0_init : ByteArray := prog_2_method_1_code
def yX0_init : MethodName := ⟨RX0, "<init>", "()V"⟩
abbrev cX0_begin : ByteArray := prog_2_method_2_code
def yX0_begin : MethodName := ⟨RX0, "begin", "()I"⟩
abbrev cX0_advance : ByteArray := prog_2_method_3_code
def yX0_advance : MethodName := ⟨RX0, "advance", "(II)I"⟩
abbrev cX0_marksDown : ByteArray := prog_2_method_4_code
def yX0_marksDown : MethodName := ⟨RX0, "marksDown", "(I)I"⟩
def RX1 : String := "SaturdaySale$Greatest"
def TX1 : u_T := fun k => match k with
  | 0 => ("SaturdaySale$Greatest", "numbers", "[I", true)
  | _ => ("SaturdaySale$Greatest", "mean", "J", false)
def tyX1 : Nat → FieldType := fun k => match k with
  | 0 => .array .int
  | _ => .long
abbrev wsX10 : List Cond := u_ws RX1 TX1 2
theorem nmX1 : ∀ a, a < 2 → ∀ b, b < 2 → a ≠ b → (TX1 a).2.1 ≠ (TX1 b).2.1 := by decide +kernel
theorem tyX1_ok : ∀ k, k < 2 → parseFieldDescriptor (TX1 k).2.2.1 = some (tyX1 k) := by decide +kernel
abbrev cX1_init : ByteArray := prog_3_method_1_code
def yX1_init : MethodName := ⟨RX1, "<init>", "()V"⟩
abbrev cX1_clear : ByteArray := prog_3_method_2_code
def yX1_clear : MethodName := ⟨RX1, "clear", "()V"⟩
abbrev cX1_offer : ByteArray := prog_3_method_3_code
def yX1_offer : MethodName := ⟨RX1, "offer", "(J[I)V"⟩
def RX2 : String := "SaturdaySale$Rule"
def TX2 : u_T := fun k => match k with
  | 0 => ("SaturdaySale$Rule", "stands", "Z", false)
  | 1 => ("SaturdaySale$Rule", "clauses", "I", false)
  | 2 => ("SaturdaySale$Rule", "facts", "[I", true)
  | 3 => ("SaturdaySale$Rule", "compares", "[I", true)
  | 4 => ("SaturdaySale$Rule", "bounds", "[I", true)
  | 5 => ("SaturdaySale$Rule", "numbers", "[I", true)
  | _ => ("SaturdaySale$Rule", "lastNumber", "I", false)
def tyX2 : Nat → FieldType := fun k => match k with
  | 0 => .boolean
  | 1 => .int
  | 2 => .array .int
  | 3 => .array .int
  | 4 => .array .int
  | 5 => .array .int
  | _ => .int
abbrev wsX20 : List Cond := u_ws RX2 TX2 7
theorem nmX2 : ∀ a, a < 7 → ∀ b, b < 7 → a ≠ b → (TX2 a).2.1 ≠ (TX2 b).2.1 := by decide +kernel
theorem tyX2_ok : ∀ k, k < 7 → parseFieldDescriptor (TX2 k).2.2.1 = some (tyX2 k) := by decide +kernel
abbrev cX2_init : ByteArray := prog_4_method_1_code
def yX2_init : MethodName := ⟨RX2, "<init>", "()V"⟩
abbrev cX2_read : ByteArray := prog_4_method_2_code
def yX2_read : MethodName := ⟨RX2, "read", "(LSaturdaySale$Text;)V"⟩
abbrev cX2_readInClause : ByteArray := prog_4_method_3_code
def yX2_readInClause : MethodName := ⟨RX2, "readInClause", "(II)V"⟩
abbrev cX2_numberFor : ByteArray := prog_4_method_4_code
def yX2_numberFor : MethodName := ⟨RX2, "numberFor", "(III)I"⟩
abbrev cX2_isSo : ByteArray := prog_4_method_5_code
def yX2_isSo : MethodName := ⟨RX2, "isSo", "(II)Z"⟩
def RX3 : String := "SaturdaySale$Sale"
def TX3 : u_T := fun k => match k with
  | 0 => ("SaturdaySale$Sale", "coats", "I", false)
  | 1 => ("SaturdaySale$Sale", "days", "I", false)
  | 2 => ("SaturdaySale$Sale", "rest", "I", false)
  | 3 => ("SaturdaySale$Sale", "prices", "[I", true)
  | 4 => ("SaturdaySale$Sale", "priceCount", "I", false)
  | 5 => ("SaturdaySale$Sale", "chances", "[I", true)
  | 6 => ("SaturdaySale$Sale", "worths", "[I", true)
  | 7 => ("SaturdaySale$Sale", "falls", "[I", true)
  | 8 => ("SaturdaySale$Sale", "waits", "[I", true)
  | 9 => ("SaturdaySale$Sale", "sortCount", "I", false)
  | _ => ("SaturdaySale$Sale", "edition", "I", false)
def tyX3 : Nat → FieldType := fun k => match k with
  | 0 => .int
  | 1 => .int
  | 2 => .int
  | 3 => .array .int
  | 4 => .int
  | 5 => .array .int
  | 6 => .array .int
  | 7 => .array .int
  | 8 => .array .int
  | 9 => .int
  | _ => .int
abbrev wsX30 : List Cond := u_ws RX3 TX3 11
theorem nmX3 : ∀ a, a < 11 → ∀ b, b < 11 → a ≠ b → (TX3 a).2.1 ≠ (TX3 b).2.1 := by decide +kernel
theorem tyX3_ok : ∀ k, k < 11 → parseFieldDescriptor (TX3 k).2.2.1 = some (tyX3 k) := by decide +kernel
abbrev cX3_init : ByteArray := prog_5_method_1_code
def yX3_init : MethodName := ⟨RX3, "<init>", "()V"⟩
abbrev cX3_isPrice : ByteArray := prog_5_method_2_code
def yX3_isPrice : MethodName := ⟨RX3, "isPrice", "(I)Z"⟩
abbrev cX3_isSort : ByteArray := prog_5_method_3_code
def yX3_isSort : MethodName := ⟨RX3, "isSort", "(I)Z"⟩
abbrev cX3_isWaiting : ByteArray := prog_5_method_4_code
def yX3_isWaiting : MethodName := ⟨RX3, "isWaiting", "(I)Z"⟩
abbrev cX3_waitTold : ByteArray := prog_5_method_5_code
def yX3_waitTold : MethodName := ⟨RX3, "waitTold", "(I)I"⟩
abbrev cX3_worthOn : ByteArray := prog_5_method_6_code
def yX3_worthOn : MethodName := ⟨RX3, "worthOn", "(II)I"⟩
abbrev cX3_chanceToBuy : ByteArray := prog_5_method_7_code
def yX3_chanceToBuy : MethodName := ⟨RX3, "chanceToBuy", "(III)I"⟩
abbrev cX3_dayPicked : ByteArray := prog_5_method_8_code
def yX3_dayPicked : MethodName := ⟨RX3, "dayPicked", "(II[I)I"⟩
abbrev cX3_scale : ByteArray := prog_5_method_9_code
def yX3_scale : MethodName := ⟨RX3, "scale", "(I)J"⟩
def RX4 : String := "SaturdaySale$Table"
def TX4 : u_T := fun k => match k with
  | 0 => ("SaturdaySale$Table", "means", "[[J", true)
  | 1 => ("SaturdaySale$Table", "asked", "[[I", true)
  | _ => ("SaturdaySale$Table", "row", "[J", true)
def tyX4 : Nat → FieldType := fun k => match k with
  | 0 => .array (.array .long)
  | 1 => .array (.array .int)
  | _ => .array .long
abbrev wsX40 : List Cond := u_ws RX4 TX4 3
theorem nmX4 : ∀ a, a < 3 → ∀ b, b < 3 → a ≠ b → (TX4 a).2.1 ≠ (TX4 b).2.1 := by decide +kernel
theorem tyX4_ok : ∀ k, k < 3 → parseFieldDescriptor (TX4 k).2.2.1 = some (tyX4 k) := by decide +kernel
abbrev cX4_init : ByteArray := prog_6_method_1_code
def yX4_init : MethodName := ⟨RX4, "<init>", "()V"⟩
abbrev cX4_askByPlan : ByteArray := prog_6_method_2_code
def yX4_askByPlan : MethodName := ⟨RX4, "askByPlan", "([I)V"⟩
abbrev cX4_askByRule : ByteArray := prog_6_method_3_code
def yX4_askByRule : MethodName := ⟨RX4, "askByRule", "(LSaturdaySale$Rule;I)V"⟩
abbrev cX4_fillAsked : ByteArray := prog_6_method_4_code
def yX4_fillAsked : MethodName := ⟨RX4, "fillAsked", "(LSaturdaySale$Sale;)V"⟩
abbrev cX4_fillBest : ByteArray := prog_6_method_5_code
def yX4_fillBest : MethodName := ⟨RX4, "fillBest", "(LSaturdaySale$Sale;)V"⟩
abbrev cX4_fillEnd : ByteArray := prog_6_method_6_code
def yX4_fillEnd : MethodName := ⟨RX4, "fillEnd", "(LSaturdaySale$Sale;)V"⟩
abbrev cX4_rowFor : ByteArray := prog_6_method_7_code
def yX4_rowFor : MethodName := ⟨RX4, "rowFor", "(LSaturdaySale$Sale;II)V"⟩
abbrev cX4_backByBuyer : ByteArray := prog_6_method_8_code
def yX4_backByBuyer : MethodName := ⟨RX4, "backByBuyer", "(IJ)V"⟩
abbrev cX4_takeAsked : ByteArray := prog_6_method_9_code
def yX4_takeAsked : MethodName := ⟨RX4, "takeAsked", "(II)V"⟩
abbrev cX4_takeGreater : ByteArray := prog_6_method_10_code
def yX4_takeGreater : MethodName := ⟨RX4, "takeGreater", "(II)V"⟩
def RX5 : String := "SaturdaySale$Text"
def TX5 : u_T := fun k => match k with
  | 0 => ("SaturdaySale$Text", "signs", "[I", true)
  | _ => ("SaturdaySale$Text", "count", "I", false)
def tyX5 : Nat → FieldType := fun k => match k with
  | 0 => .array .int
  | _ => .int
abbrev wsX50 : List Cond := u_ws RX5 TX5 2
theorem nmX5 : ∀ a, a < 2 → ∀ b, b < 2 → a ≠ b → (TX5 a).2.1 ≠ (TX5 b).2.1 := by decide +kernel
theorem tyX5_ok : ∀ k, k < 2 → parseFieldDescriptor (TX5 k).2.2.1 = some (tyX5 k) := by decide +kernel
abbrev cX5_init : ByteArray := prog_7_method_1_code
def yX5_init : MethodName := ⟨RX5, "<init>", "()V"⟩
abbrev cX5_faultPlace : ByteArray := prog_7_method_2_code
def yX5_faultPlace : MethodName := ⟨RX5, "faultPlace", "()I"⟩
abbrev cX5_isDigit : ByteArray := prog_7_method_3_code
def yX5_isDigit : MethodName := ⟨RX5, "isDigit", "(I)Z"⟩
abbrev cX5_isPriceDigit : ByteArray := prog_7_method_4_code
def yX5_isPriceDigit : MethodName := ⟨RX5, "isPriceDigit", "(I)Z"⟩
abbrev cX5_isFact : ByteArray := prog_7_method_5_code
def yX5_isFact : MethodName := ⟨RX5, "isFact", "(I)Z"⟩
abbrev cX5_isCompare : ByteArray := prog_7_method_6_code
def yX5_isCompare : MethodName := ⟨RX5, "isCompare", "(I)Z"⟩
abbrev cX5_follow : ByteArray := prog_7_method_7_code
def yX5_follow : MethodName := ⟨RX5, "follow", "(II)I"⟩
def RX6 : String := "SaturdaySale$Walk"
def TX6 : u_T := fun k => match k with
  | 0 => ("SaturdaySale$Walk", "odds", "[[J", true)
  | 1 => ("SaturdaySale$Walk", "takings", "[J", true)
  | _ => ("SaturdaySale$Walk", "picked", "[[I", true)
def tyX6 : Nat → FieldType := fun k => match k with
  | 0 => .array (.array .long)
  | 1 => .array .long
  | _ => .array (.array .int)
abbrev wsX60 : List Cond := u_ws RX6 TX6 3
theorem nmX6 : ∀ a, a < 3 → ∀ b, b < 3 → a ≠ b → (TX6 a).2.1 ≠ (TX6 b).2.1 := by decide +kernel
theorem tyX6_ok : ∀ k, k < 3 → parseFieldDescriptor (TX6 k).2.2.1 = some (tyX6 k) := by decide +kernel
abbrev cX6_init : ByteArray := prog_8_method_1_code
def yX6_init : MethodName := ⟨RX6, "<init>", "()V"⟩
abbrev cX6_goByPlan : ByteArray := prog_8_method_2_code
def yX6_goByPlan : MethodName := ⟨RX6, "goByPlan", "(LSaturdaySale$Sale;[II)V"⟩
abbrev cX6_goWaiting : ByteArray := prog_8_method_3_code
def yX6_goWaiting : MethodName := ⟨RX6, "goWaiting", "(LSaturdaySale$Sale;[I)V"⟩
abbrev cX6_mean : ByteArray := prog_8_method_4_code
def yX6_mean : MethodName := ⟨RX6, "mean", "(LSaturdaySale$Sale;)J"⟩
abbrev cX6_begin : ByteArray := prog_8_method_5_code
def yX6_begin : MethodName := ⟨RX6, "begin", "(LSaturdaySale$Sale;)V"⟩
abbrev cX6_openDay : ByteArray := prog_8_method_6_code
def yX6_openDay : MethodName := ⟨RX6, "openDay", "(I)V"⟩
abbrev cX6_pickAll : ByteArray := prog_8_method_7_code
def yX6_pickAll : MethodName := ⟨RX6, "pickAll", "(LSaturdaySale$Sale;[I)V"⟩
abbrev cX6_passThoseOf : ByteArray := prog_8_method_8_code
def yX6_passThoseOf : MethodName := ⟨RX6, "passThoseOf", "(ILSaturdaySale$Sale;II)V"⟩
abbrev cX6_passBuyer : ByteArray := prog_8_method_9_code
def yX6_passBuyer : MethodName := ⟨RX6, "passBuyer", "(III)V"⟩
def RX7 : String := "SaturdaySale"
def TX7 : u_T := fun k => match k with
  | 0 => ("SaturdaySale", "sale", "LSaturdaySale$Sale;", true)
  | 1 => ("SaturdaySale", "planned", "[I", true)
  | 2 => ("SaturdaySale", "bestTable", "LSaturdaySale$Table;", true)
  | 3 => ("SaturdaySale", "otherTable", "LSaturdaySale$Table;", true)
  | 4 => ("SaturdaySale", "walk", "LSaturdaySale$Walk;", true)
  | 5 => ("SaturdaySale", "falling", "LSaturdaySale$FallingPlans;", true)
  | 6 => ("SaturdaySale", "keptPlan", "LSaturdaySale$Greatest;", true)
  | 7 => ("SaturdaySale", "oncePlan", "LSaturdaySale$Greatest;", true)
  | 8 => ("SaturdaySale", "metPlan", "LSaturdaySale$Greatest;", true)
  | 9 => ("SaturdaySale", "text", "LSaturdaySale$Text;", true)
  | 10 => ("SaturdaySale", "boyRule", "LSaturdaySale$Rule;", true)
  | 11 => ("SaturdaySale", "bestEdition", "I", false)
  | 12 => ("SaturdaySale", "keptEdition", "I", false)
  | _ => ("SaturdaySale", "metEdition", "I", false)
def tyX7 : Nat → FieldType := fun k => match k with
  | 0 => .object "SaturdaySale$Sale"
  | 1 => .array .int
  | 2 => .object "SaturdaySale$Table"
  | 3 => .object "SaturdaySale$Table"
  | 4 => .object "SaturdaySale$Walk"
  | 5 => .object "SaturdaySale$FallingPlans"
  | 6 => .object "SaturdaySale$Greatest"
  | 7 => .object "SaturdaySale$Greatest"
  | 8 => .object "SaturdaySale$Greatest"
  | 9 => .object "SaturdaySale$Text"
  | 10 => .object "SaturdaySale$Rule"
  | 11 => .int
  | 12 => .int
  | _ => .int
abbrev wsX70 : List Cond := u_ws RX7 TX7 14
theorem nmX7 : ∀ a, a < 14 → ∀ b, b < 14 → a ≠ b → (TX7 a).2.1 ≠ (TX7 b).2.1 := by decide +kernel
theorem tyX7_ok : ∀ k, k < 14 → parseFieldDescriptor (TX7 k).2.2.1 = some (tyX7 k) := by decide +kernel
abbrev cX7_init : ByteArray := prog_1_method_1_code
def yX7_init : MethodName := ⟨RX7, "<init>", "()V"⟩
abbrev cX7_set : ByteArray := prog_1_method_2_code
def yX7_set : MethodName := ⟨RX7, "set", "(II)I"⟩
abbrev cX7_price : ByteArray := prog_1_method_3_code
def yX7_price : MethodName := ⟨RX7, "price", "(I)I"⟩
abbrev cX7_sort : ByteArray := prog_1_method_4_code
def yX7_sort : MethodName := ⟨RX7, "sort", "(III)I"⟩
abbrev cX7_change : ByteArray := prog_1_method_5_code
def yX7_change : MethodName := ⟨RX7, "change", "(III)I"⟩
abbrev cX7_worth : ByteArray := prog_1_method_6_code
def yX7_worth : MethodName := ⟨RX7, "worth", "(II)I"⟩
abbrev cX7_plan : ByteArray := prog_1_method_7_code
def yX7_plan : MethodName := ⟨RX7, "plan", "(II)I"⟩
abbrev cX7_brings : ByteArray := prog_1_method_8_code
def yX7_brings : MethodName := ⟨RX7, "brings", "(I)J"⟩
abbrev cX7_left : ByteArray := prog_1_method_9_code
def yX7_left : MethodName := ⟨RX7, "left", "(II)J"⟩
abbrev cX7_best : ByteArray := prog_1_method_10_code
def yX7_best : MethodName := ⟨RX7, "best", "(II)I"⟩
abbrev cX7_state : ByteArray := prog_1_method_11_code
def yX7_state : MethodName := ⟨RX7, "state", "(III)J"⟩
abbrev cX7_dip : ByteArray := prog_1_method_12_code
def yX7_dip : MethodName := ⟨RX7, "dip", "(I)I"⟩
abbrev cX7_kept : ByteArray := prog_1_method_13_code
def yX7_kept : MethodName := ⟨RX7, "kept", "(II)I"⟩
abbrev cX7_keeps : ByteArray := prog_1_method_14_code
def yX7_keeps : MethodName := ⟨RX7, "keeps", "(II)J"⟩
abbrev cX7_rather : ByteArray := prog_1_method_15_code
def yX7_rather : MethodName := ⟨RX7, "rather", "()I"⟩
abbrev cX7_picks : ByteArray := prog_1_method_16_code
def yX7_picks : MethodName := ⟨RX7, "picks", "(II)I"⟩
abbrev cX7_made : ByteArray := prog_1_method_17_code
def yX7_made : MethodName := ⟨RX7, "made", "(I)I"⟩
abbrev cX7_say : ByteArray := prog_1_method_18_code
def yX7_say : MethodName := ⟨RX7, "say", "(I)I"⟩
abbrev cX7_wipe : ByteArray := prog_1_method_19_code
def yX7_wipe : MethodName := ⟨RX7, "wipe", "()I"⟩
abbrev cX7_fault : ByteArray := prog_1_method_20_code
def yX7_fault : MethodName := ⟨RX7, "fault", "()I"⟩
abbrev cX7_rule : ByteArray := prog_1_method_21_code
def yX7_rule : MethodName := ⟨RX7, "rule", "()I"⟩
abbrev cX7_asks : ByteArray := prog_1_method_22_code
def yX7_asks : MethodName := ⟨RX7, "asks", "(II)I"⟩
abbrev cX7_boy : ByteArray := prog_1_method_23_code
def yX7_boy : MethodName := ⟨RX7, "boy", "(I)J"⟩
abbrev cX7_worst : ByteArray := prog_1_method_24_code
def yX7_worst : MethodName := ⟨RX7, "worst", "()I"⟩
abbrev cX7_edge : ByteArray := prog_1_method_25_code
def yX7_edge : MethodName := ⟨RX7, "edge", "(I)I"⟩
abbrev cX7_told : ByteArray := prog_1_method_26_code
def yX7_told : MethodName := ⟨RX7, "told", "(I)I"⟩
abbrev cX7_isWithin : ByteArray := prog_1_method_27_code
def yX7_isWithin : MethodName := ⟨RX7, "isWithin", "(III)Z"⟩
abbrev cX7_isPart : ByteArray := prog_1_method_28_code
def yX7_isPart : MethodName := ⟨RX7, "isPart", "(I)Z"⟩
abbrev cX7_isDay : ByteArray := prog_1_method_29_code
def yX7_isDay : MethodName := ⟨RX7, "isDay", "(I)Z"⟩
abbrev cX7_refusalOf : ByteArray := prog_1_method_30_code
def yX7_refusalOf : MethodName := ⟨RX7, "refusalOf", "(Z)I"⟩
abbrev cX7_ruleRefusalOf : ByteArray := prog_1_method_31_code
def yX7_ruleRefusalOf : MethodName := ⟨RX7, "ruleRefusalOf", "(Z)I"⟩
abbrev cX7_partOf : ByteArray := prog_1_method_32_code
def yX7_partOf : MethodName := ⟨RX7, "partOf", "(JJI)J"⟩
abbrev cX7_findBest : ByteArray := prog_1_method_33_code
def yX7_findBest : MethodName := ⟨RX7, "findBest", "()V"⟩
abbrev cX7_findKept : ByteArray := prog_1_method_34_code
def yX7_findKept : MethodName := ⟨RX7, "findKept", "()V"⟩
abbrev cX7_findMet : ByteArray := prog_1_method_35_code
def yX7_findMet : MethodName := ⟨RX7, "findMet", "()V"⟩
abbrev cX7_findBoy : ByteArray := prog_1_method_36_code
def yX7_findBoy : MethodName := ⟨RX7, "findBoy", "()V"⟩
abbrev cX7_promised : ByteArray := prog_1_method_37_code
def yX7_promised : MethodName := ⟨RX7, "promised", "(I)LSaturdaySale$Greatest;"⟩
abbrev cX7_promiseMean : ByteArray := prog_1_method_38_code
def yX7_promiseMean : MethodName := ⟨RX7, "promiseMean", "(I)J"⟩
abbrev cX7_isOtherWith : ByteArray := prog_1_method_39_code
def yX7_isOtherWith : MethodName := ⟨RX7, "isOtherWith", "(II)Z"⟩
def RX8 : String := "SaturdaySaleModel"
def TX8 : u_T := fun k => match k with
  | 0 => ("SaturdaySaleModel", "coats", "I", false)
  | 1 => ("SaturdaySaleModel", "days", "I", false)
  | 2 => ("SaturdaySaleModel", "rest", "I", false)
  | 3 => ("SaturdaySaleModel", "prices", "[I", true)
  | 4 => ("SaturdaySaleModel", "priceMany", "I", false)
  | 5 => ("SaturdaySaleModel", "chances", "[I", true)
  | 6 => ("SaturdaySaleModel", "worths", "[I", true)
  | 7 => ("SaturdaySaleModel", "falls", "[I", true)
  | 8 => ("SaturdaySaleModel", "waitCost", "[I", true)
  | 9 => ("SaturdaySaleModel", "sorts", "I", false)
  | 10 => ("SaturdaySaleModel", "planOf", "[I", true)
  | 11 => ("SaturdaySaleModel", "brought", "[J", true)
  | 12 => ("SaturdaySaleModel", "fine", "J", false)
  | 13 => ("SaturdaySaleModel", "bestBrings", "[J", true)
  | 14 => ("SaturdaySaleModel", "bestPrice", "[I", true)
  | 15 => ("SaturdaySaleModel", "waitingBrings", "[J", true)
  | 16 => ("SaturdaySaleModel", "tried", "[I", true)
  | 17 => ("SaturdaySaleModel", "odds", "[J", true)
  | 18 => ("SaturdaySaleModel", "keptPlan", "[I", true)
  | 19 => ("SaturdaySaleModel", "signs", "[I", true)
  | 20 => ("SaturdaySaleModel", "signMany", "I", false)
  | 21 => ("SaturdaySaleModel", "clauseFact", "[I", true)
  | 22 => ("SaturdaySaleModel", "clauseHow", "[I", true)
  | 23 => ("SaturdaySaleModel", "clauseNumber", "[I", true)
  | 24 => ("SaturdaySaleModel", "clausePrice", "[I", true)
  | 25 => ("SaturdaySaleModel", "clauses", "I", false)
  | 26 => ("SaturdaySaleModel", "lastPrice", "I", false)
  | 27 => ("SaturdaySaleModel", "boyRow", "[J", true)
  | _ => ("SaturdaySaleModel", "boyNext", "[J", true)
def tyX8 : Nat → FieldType := fun k => match k with
  | 0 => .int
  | 1 => .int
  | 2 => .int
  | 3 => .array .int
  | 4 => .int
  | 5 => .array .int
  | 6 => .array .int
  | 7 => .array .int
  | 8 => .array .int
  | 9 => .int
  | 10 => .array .int
  | 11 => .array .long
  | 12 => .long
  | 13 => .array .long
  | 14 => .array .int
  | 15 => .array .long
  | 16 => .array .int
  | 17 => .array .long
  | 18 => .array .int
  | 19 => .array .int
  | 20 => .int
  | 21 => .array .int
  | 22 => .array .int
  | 23 => .array .int
  | 24 => .array .int
  | 25 => .int
  | 26 => .int
  | 27 => .array .long
  | _ => .array .long
abbrev wsX80 : List Cond := u_ws RX8 TX8 29
theorem nmX8 : ∀ a, a < 29 → ∀ b, b < 29 → a ≠ b → (TX8 a).2.1 ≠ (TX8 b).2.1 := by decide +kernel
theorem tyX8_ok : ∀ k, k < 29 → parseFieldDescriptor (TX8 k).2.2.1 = some (tyX8 k) := by decide +kernel
abbrev cX8_init : ByteArray := prog_10_method_1_code
def yX8_init : MethodName := ⟨RX8, "<init>", "()V"⟩
abbrev cX8_in : ByteArray := prog_10_method_3_code
def yX8_in : MethodName := ⟨RX8, "in", "(JJJ)Z"⟩
abbrev cX8_set : ByteArray := prog_10_method_4_code
def yX8_set : MethodName := ⟨RX8, "set", "(II)I"⟩
abbrev cX8_price : ByteArray := prog_10_method_5_code
def yX8_price : MethodName := ⟨RX8, "price", "(I)I"⟩
abbrev cX8_sort : ByteArray := prog_10_method_6_code
def yX8_sort : MethodName := ⟨RX8, "sort", "(III)I"⟩
abbrev cX8_isSort : ByteArray := prog_10_method_7_code
def yX8_isSort : MethodName := ⟨RX8, "isSort", "(I)Z"⟩
abbrev cX8_change : ByteArray := prog_10_method_8_code
def yX8_change : MethodName := ⟨RX8, "change", "(III)I"⟩
abbrev cX8_worthOf : ByteArray := prog_10_method_9_code
def yX8_worthOf : MethodName := ⟨RX8, "worthOf", "(II)I"⟩
abbrev cX8_worth : ByteArray := prog_10_method_10_code
def yX8_worth : MethodName := ⟨RX8, "worth", "(II)I"⟩
abbrev cX8_power : ByteArray := prog_10_method_11_code
def yX8_power : MethodName := ⟨RX8, "power", "(I)J"⟩
abbrev cX8_lowest : ByteArray := prog_10_method_12_code
def yX8_lowest : MethodName := ⟨RX8, "lowest", "(JJI)J"⟩
abbrev cX8_isPart : ByteArray := prog_10_method_13_code
def yX8_isPart : MethodName := ⟨RX8, "isPart", "(I)Z"⟩
abbrev cX8_beginEnd : ByteArray := prog_10_method_14_code
def yX8_beginEnd : MethodName := ⟨RX8, "beginEnd", "()V"⟩
abbrev cX8_buyer : ByteArray := prog_10_method_15_code
def yX8_buyer : MethodName := ⟨RX8, "buyer", "(II)V"⟩
abbrev cX8_dayAt : ByteArray := prog_10_method_16_code
def yX8_dayAt : MethodName := ⟨RX8, "dayAt", "(II)V"⟩
abbrev cX8_findBest : ByteArray := prog_10_method_17_code
def yX8_findBest : MethodName := ⟨RX8, "findBest", "()V"⟩
abbrev cX8_keepRow : ByteArray := prog_10_method_18_code
def yX8_keepRow : MethodName := ⟨RX8, "keepRow", "(I)V"⟩
abbrev cX8_layPlan : ByteArray := prog_10_method_19_code
def yX8_layPlan : MethodName := ⟨RX8, "layPlan", "()V"⟩
abbrev cX8_bringFrom : ByteArray := prog_10_method_20_code
def yX8_bringFrom : MethodName := ⟨RX8, "bringFrom", "(I)V"⟩
abbrev cX8_plan : ByteArray := prog_10_method_21_code
def yX8_plan : MethodName := ⟨RX8, "plan", "(II)I"⟩
abbrev cX8_brings : ByteArray := prog_10_method_22_code
def yX8_brings : MethodName := ⟨RX8, "brings", "(I)J"⟩
abbrev cX8_findOdds : ByteArray := prog_10_method_23_code
def yX8_findOdds : MethodName := ⟨RX8, "findOdds", "(I)V"⟩
abbrev cX8_left : ByteArray := prog_10_method_24_code
def yX8_left : MethodName := ⟨RX8, "left", "(II)J"⟩
abbrev cX8_best : ByteArray := prog_10_method_25_code
def yX8_best : MethodName := ⟨RX8, "best", "(II)I"⟩
abbrev cX8_state : ByteArray := prog_10_method_26_code
def yX8_state : MethodName := ⟨RX8, "state", "(III)J"⟩
abbrev cX8_dip : ByteArray := prog_10_method_27_code
def yX8_dip : MethodName := ⟨RX8, "dip", "(I)I"⟩
abbrev cX8_nextPlan : ByteArray := prog_10_method_28_code
def yX8_nextPlan : MethodName := ⟨RX8, "nextPlan", "()Z"⟩
abbrev cX8_isOnce : ByteArray := prog_10_method_29_code
def yX8_isOnce : MethodName := ⟨RX8, "isOnce", "()Z"⟩
abbrev cX8_pickOf : ByteArray := prog_10_method_30_code
def yX8_pickOf : MethodName := ⟨RX8, "pickOf", "(II)I"⟩
abbrev cX8_meet : ByteArray := prog_10_method_31_code
def yX8_meet : MethodName := ⟨RX8, "meet", "()V"⟩
abbrev cX8_findKept : ByteArray := prog_10_method_32_code
def yX8_findKept : MethodName := ⟨RX8, "findKept", "(I)J"⟩
abbrev cX8_kept : ByteArray := prog_10_method_33_code
def yX8_kept : MethodName := ⟨RX8, "kept", "(II)I"⟩
abbrev cX8_keeps : ByteArray := prog_10_method_34_code
def yX8_keeps : MethodName := ⟨RX8, "keeps", "(II)J"⟩
abbrev cX8_rather : ByteArray := prog_10_method_35_code
def yX8_rather : MethodName := ⟨RX8, "rather", "()I"⟩
abbrev cX8_picks : ByteArray := prog_10_method_36_code
def yX8_picks : MethodName := ⟨RX8, "picks", "(II)I"⟩
abbrev cX8_made : ByteArray := prog_10_method_37_code
def yX8_made : MethodName := ⟨RX8, "made", "(I)I"⟩
abbrev cX8_say : ByteArray := prog_10_method_38_code
def yX8_say : MethodName := ⟨RX8, "say", "(I)I"⟩
abbrev cX8_wipe : ByteArray := prog_10_method_39_code
def yX8_wipe : MethodName := ⟨RX8, "wipe", "()I"⟩
abbrev cX8_isHow : ByteArray := prog_10_method_40_code
def yX8_isHow : MethodName := ⟨RX8, "isHow", "(I)Z"⟩
abbrev cX8_stepOf : ByteArray := prog_10_method_41_code
def yX8_stepOf : MethodName := ⟨RX8, "stepOf", "(II)I"⟩
abbrev cX8_fault : ByteArray := prog_10_method_42_code
def yX8_fault : MethodName := ⟨RX8, "fault", "()I"⟩
abbrev cX8_rule : ByteArray := prog_10_method_43_code
def yX8_rule : MethodName := ⟨RX8, "rule", "()I"⟩
abbrev cX8_askedAt : ByteArray := prog_10_method_44_code
def yX8_askedAt : MethodName := ⟨RX8, "askedAt", "(II)I"⟩
abbrev cX8_isReady : ByteArray := prog_10_method_45_code
def yX8_isReady : MethodName := ⟨RX8, "isReady", "()Z"⟩
abbrev cX8_asks : ByteArray := prog_10_method_46_code
def yX8_asks : MethodName := ⟨RX8, "asks", "(II)I"⟩
abbrev cX8_findBoy : ByteArray := prog_10_method_47_code
def yX8_findBoy : MethodName := ⟨RX8, "findBoy", "()V"⟩
abbrev cX8_boy : ByteArray := prog_10_method_48_code
def yX8_boy : MethodName := ⟨RX8, "boy", "(I)J"⟩
abbrev cX8_worst : ByteArray := prog_10_method_49_code
def yX8_worst : MethodName := ⟨RX8, "worst", "()I"⟩
abbrev cX8_beginPrice : ByteArray := prog_10_method_50_code
def yX8_beginPrice : MethodName := ⟨RX8, "beginPrice", "()I"⟩
abbrev cX8_edge : ByteArray := prog_10_method_51_code
def yX8_edge : MethodName := ⟨RX8, "edge", "(I)I"⟩
abbrev cX8_told : ByteArray := prog_10_method_52_code
def yX8_told : MethodName := ⟨RX8, "told", "(I)I"⟩
def RJ9 : String := "java/lang/Math"
def TJ9 : u_T := fun k => match k with
  | _ => ("", "", "", false)
def tyJ9 : Nat → FieldType := fun k => match k with
  | _ => .int
theorem nmJ9 : ∀ a, a < 0 → ∀ b, b < 0 → a ≠ b → (TJ9 a).2.1 ≠ (TJ9 b).2.1 := by decide +kernel
theorem tyJ9_ok : ∀ k, k < 0 → parseFieldDescriptor (TJ9 k).2.2.1 = some (tyJ9 k) := by decide +kernel
abbrev cJ9_max_7cf53 : ByteArray := prog_11_method_65_code
def yJ9_max_7cf53 : MethodName := ⟨RJ9, "max", "(II)I"⟩
abbrev cJ9_min_7cf53 : ByteArray := prog_11_method_69_code
def yJ9_min_7cf53 : MethodName := ⟨RJ9, "min", "(II)I"⟩
def RJ10 : String := "java/lang/System"
def TJ10 : u_T := fun k => match k with
  | _ => ("", "", "", false)
def tyJ10 : Nat → FieldType := fun k => match k with
  | _ => .int
theorem nmJ10 : ∀ a, a < 0 → ∀ b, b < 0 → a ≠ b → (TJ10 a).2.1 ≠ (TJ10 b).2.1 := by decide +kernel
theorem tyJ10_ok : ∀ k, k < 0 → parseFieldDescriptor (TJ10 k).2.2.1 = some (tyJ10 k) := by decide +kernel
def RL : String := "SaturdaySaleLaw"
abbrev cL_law : ByteArray := code
def yL_law : MethodName := ⟨RL, "law", "([I)Z"⟩
abbrev vwCl : List vw_C := [(RX0, TX0, 1), (RX1, TX1, 2), (RX2, TX2, 7), (RX3, TX3, 11), (RX4, TX4, 3), (RX5, TX5, 2), (RX6, TX6, 3), (RX7, TX7, 14), (RX8, TX8, 29)]
end
section
theorem dX0_init_0 : decode cX0_init 0 = .ok (.aload_n 0, 1) := by decide +kernel
theorem dX0_init_1 : decode cX0_init 1 = .ok (.invokespecial 3, 3) := by decide +kernel
theorem dX0_init_4 : decode cX0_init 4 = .ok (.aload_n 0, 1) := by decide +kernel
theorem dX0_init_5 : decode cX0_init 5 = .ok (.bipush 6, 2) := by decide +kernel
theorem dX0_init_7 : decode cX0_init 7 = .ok (.newarray .int, 2) := by decide +kernel
theorem dX0_init_9 : decode cX0_init 9 = .ok (.putfield 9, 3) := by decide +kernel
theorem dX0_init_12 : decode cX0_init 12 = .ok (.return_, 1) := by decide +kernel
theorem dX0_begin_0 : decode cX0_begin 0 = .ok (.iconst 0, 1) := by decide +kernel
theorem dX0_begin_1 : decode cX0_begin 1 = .ok (.istore_n 1, 1) := by decide +kernel
theorem dX0_begin_2 : decode cX0_begin 2 = .ok (.iload_n 1, 1) := by decide +kernel
theorem dX0_begin_3 : decode cX0_begin 3 = .ok (.bipush 6, 2) := by decide +kernel
theorem dX0_begin_5 : decode cX0_begin 5 = .ok (.if_icmp .ge 16, 3) := by decide +kernel
theorem dX0_begin_8 : decode cX0_begin 8 = .ok (.aload_n 0, 1) := by decide +kernel
theorem dX0_begin_9 : decode cX0_begin 9 = .ok (.getfield 9, 3) := by decide +kernel
theorem dX0_begin_12 : decode cX0_begin 12 = .ok (.iload_n 1, 1) := by decide +kernel
theorem dX0_begin_13 : decode cX0_begin 13 = .ok (.iconst 0, 1) := by decide +kernel
theorem dX0_begin_14 : decode cX0_begin 14 = .ok (.iastore, 1) := by decide +kernel
theorem dX0_begin_15 : decode cX0_begin 15 = .ok (.iinc 1 1, 3) := by decide +kernel
theorem dX0_begin_18 : decode cX0_begin 18 = .ok (.goto (-16), 3) := by decide +kernel
theorem dX0_begin_21 : decode cX0_begin 21 = .ok (.iconst 0, 1) := by decide +kernel
theorem dX0_begin_22 : decode cX0_begin 22 = .ok (.ireturn, 1) := by decide +kernel
theorem dX0_advance_0 : decode cX0_advance 0 = .ok (.iload_n 1, 1) := by decide +kernel
theorem dX0_advance_1 : decode cX0_advance 1 = .ok (.iconst 1, 1) := by decide +kernel
theorem dX0_advance_2 : decode cX0_advance 2 = .ok (.isub, 1) := by decide +kernel
theorem dX0_advance_3 : decode cX0_advance 3 = .ok (.istore_n 3, 1) := by decide +kernel
theorem dX0_advance_4 : decode cX0_advance 4 = .ok (.iload_n 3, 1) := by decide +kernel
theorem dX0_advance_5 : decode cX0_advance 5 = .ok (.ifCond .lt 57, 3) := by decide +kernel
theorem dX0_advance_8 : decode cX0_advance 8 = .ok (.aload_n 0, 1) := by decide +kernel
theorem dX0_advance_9 : decode cX0_advance 9 = .ok (.getfield 9, 3) := by decide +kernel
theorem dX0_advance_12 : decode cX0_advance 12 = .ok (.iload_n 3, 1) := by decide +kernel
theorem dX0_advance_13 : decode cX0_advance 13 = .ok (.iaload, 1) := by decide +kernel
theorem dX0_advance_14 : decode cX0_advance 14 = .ok (.iload_n 2, 1) := by decide +kernel
theorem dX0_advance_15 : decode cX0_advance 15 = .ok (.iconst 1, 1) := by decide +kernel
theorem dX0_advance_16 : decode cX0_advance 16 = .ok (.isub, 1) := by decide +kernel
theorem dX0_advance_17 : decode cX0_advance 17 = .ok (.if_icmp .ge 39, 3) := by decide +kernel
theorem dX0_advance_20 : decode cX0_advance 20 = .ok (.aload_n 0, 1) := by decide +kernel
theorem dX0_advance_21 : decode cX0_advance 21 = .ok (.getfield 9, 3) := by decide +kernel
theorem dX0_advance_24 : decode cX0_advance 24 = .ok (.iload_n 3, 1) := by decide +kernel
theorem dX0_advance_25 : decode cX0_advance 25 = .ok (.iaload, 1) := by decide +kernel
theorem dX0_advance_26 : decode cX0_advance 26 = .ok (.iconst 1, 1) := by decide +kernel
theorem dX0_advance_27 : decode cX0_advance 27 = .ok (.iadd, 1) := by decide +kernel
theorem dX0_advance_28 : decode cX0_advance 28 = .ok (.istore 4, 2) := by decide +kernel
theorem dX0_advance_30 : decode cX0_advance 30 = .ok (.iload_n 3, 1) := by decide +kernel
theorem dX0_advance_31 : decode cX0_advance 31 = .ok (.istore 5, 2) := by decide +kernel
theorem dX0_advance_33 : decode cX0_advance 33 = .ok (.iload 5, 2) := by decide +kernel
theorem dX0_advance_35 : decode cX0_advance 35 = .ok (.iload_n 1, 1) := by decide +kernel
theorem dX0_advance_36 : decode cX0_advance 36 = .ok (.if_icmp .ge 18, 3) := by decide +kernel
theorem dX0_advance_39 : decode cX0_advance 39 = .ok (.aload_n 0, 1) := by decide +kernel
theorem dX0_advance_40 : decode cX0_advance 40 = .ok (.getfield 9, 3) := by decide +kernel
theorem dX0_advance_43 : decode cX0_advance 43 = .ok (.iload 5, 2) := by decide +kernel
theorem dX0_advance_45 : decode cX0_advance 45 = .ok (.iload 4, 2) := by decide +kernel
theorem dX0_advance_47 : decode cX0_advance 47 = .ok (.iastore, 1) := by decide +kernel
theorem dX0_advance_48 : decode cX0_advance 48 = .ok (.iinc 5 1, 3) := by decide +kernel
theorem dX0_advance_51 : decode cX0_advance 51 = .ok (.goto (-18), 3) := by decide +kernel
theorem dX0_advance_54 : decode cX0_advance 54 = .ok (.iload_n 3, 1) := by decide +kernel
theorem dX0_advance_55 : decode cX0_advance 55 = .ok (.ireturn, 1) := by decide +kernel
theorem dX0_advance_56 : decode cX0_advance 56 = .ok (.iinc 3 (-1), 3) := by decide +kernel
theorem dX0_advance_59 : decode cX0_advance 59 = .ok (.goto (-55), 3) := by decide +kernel
theorem dX0_advance_62 : decode cX0_advance 62 = .ok (.bipush (-6), 2) := by decide +kernel
theorem dX0_advance_64 : decode cX0_advance 64 = .ok (.ireturn, 1) := by decide +kernel
theorem dX0_marksDown_0 : decode cX0_marksDown 0 = .ok (.iconst 0, 1) := by decide +kernel
theorem dX0_marksDown_1 : decode cX0_marksDown 1 = .ok (.istore_n 2, 1) := by decide +kernel
theorem dX0_marksDown_2 : decode cX0_marksDown 2 = .ok (.iconst 1, 1) := by decide +kernel
theorem dX0_marksDown_3 : decode cX0_marksDown 3 = .ok (.istore_n 3, 1) := by decide +kernel
theorem dX0_marksDown_4 : decode cX0_marksDown 4 = .ok (.iload_n 3, 1) := by decide +kernel
theorem dX0_marksDown_5 : decode cX0_marksDown 5 = .ok (.iload_n 1, 1) := by decide +kernel
theorem dX0_marksDown_6 : decode cX0_marksDown 6 = .ok (.if_icmp .ge 29, 3) := by decide +kernel
theorem dX0_marksDown_9 : decode cX0_marksDown 9 = .ok (.aload_n 0, 1) := by decide +kernel
theorem dX0_marksDown_10 : decode cX0_marksDown 10 = .ok (.getfield 9, 3) := by decide +kernel
theorem dX0_marksDown_13 : decode cX0_marksDown 13 = .ok (.iload_n 3, 1) := by decide +kernel
theorem dX0_marksDown_14 : decode cX0_marksDown 14 = .ok (.iaload, 1) := by decide +kernel
theorem dX0_marksDown_15 : decode cX0_marksDown 15 = .ok (.aload_n 0, 1) := by decide +kernel
theorem dX0_marksDown_16 : decode cX0_marksDown 16 = .ok (.getfield 9, 3) := by decide +kernel
theorem dX0_marksDown_19 : decode cX0_marksDown 19 = .ok (.iload_n 3, 1) := by decide +kernel
theorem dX0_marksDown_20 : decode cX0_marksDown 20 = .ok (.iconst 1, 1) := by decide +kernel
theorem dX0_marksDown_21 : decode cX0_marksDown 21 = .ok (.isub, 1) := by decide +kernel
theorem dX0_marksDown_22 : decode cX0_marksDown 22 = .ok (.iaload, 1) := by decide +kernel
theorem dX0_marksDown_23 : decode cX0_marksDown 23 = .ok (.if_icmp .eq 6, 3) := by decide +kernel
theorem dX0_marksDown_26 : decode cX0_marksDown 26 = .ok (.iinc 2 1, 3) := by decide +kernel
theorem dX0_marksDown_29 : decode cX0_marksDown 29 = .ok (.iinc 3 1, 3) := by decide +kernel
theorem dX0_marksDown_32 : decode cX0_marksDown 32 = .ok (.goto (-28), 3) := by decide +kernel
theorem dX0_marksDown_35 : decode cX0_marksDown 35 = .ok (.iload_n 2, 1) := by decide +kernel
theorem dX0_marksDown_36 : decode cX0_marksDown 36 = .ok (.ireturn, 1) := by decide +kernel
end
section
theorem dX1_init_0 : decode cX1_init 0 = .ok (.aload_n 0, 1) := by decide +kernel
theorem dX1_init_1 : decode cX1_init 1 = .ok (.invokespecial 3, 3) := by decide +kernel
theorem dX1_init_4 : decode cX1_init 4 = .ok (.aload_n 0, 1) := by decide +kernel
theorem dX1_init_5 : decode cX1_init 5 = .ok (.bipush 6, 2) := by decide +kernel
theorem dX1_init_7 : decode cX1_init 7 = .ok (.newarray .int, 2) := by decide +kernel
theorem dX1_init_9 : decode cX1_init 9 = .ok (.putfield 9, 3) := by decide +kernel
theorem dX1_init_12 : decode cX1_init 12 = .ok (.aload_n 0, 1) := by decide +kernel
theorem dX1_init_13 : decode cX1_init 13 = .ok (.ldc2_w 15, 3) := by decide +kernel
theorem dX1_init_16 : decode cX1_init 16 = .ok (.putfield 17, 3) := by decide +kernel
theorem dX1_init_19 : decode cX1_init 19 = .ok (.return_, 1) := by decide +kernel
theorem dX1_clear_0 : decode cX1_clear 0 = .ok (.aload_n 0, 1) := by decide +kernel
theorem dX1_clear_1 : decode cX1_clear 1 = .ok (.ldc2_w 15, 3) := by decide +kernel
theorem dX1_clear_4 : decode cX1_clear 4 = .ok (.putfield 17, 3) := by decide +kernel
theorem dX1_clear_7 : decode cX1_clear 7 = .ok (.return_, 1) := by decide +kernel
theorem dX1_offer_0 : decode cX1_offer 0 = .ok (.lload_n 1, 1) := by decide +kernel
theorem dX1_offer_1 : decode cX1_offer 1 = .ok (.aload_n 0, 1) := by decide +kernel
theorem dX1_offer_2 : decode cX1_offer 2 = .ok (.getfield 17, 3) := by decide +kernel
theorem dX1_offer_5 : decode cX1_offer 5 = .ok (.lcmp, 1) := by decide +kernel
theorem dX1_offer_6 : decode cX1_offer 6 = .ok (.ifCond .le 20, 3) := by decide +kernel
theorem dX1_offer_9 : decode cX1_offer 9 = .ok (.aload_n 0, 1) := by decide +kernel
theorem dX1_offer_10 : decode cX1_offer 10 = .ok (.lload_n 1, 1) := by decide +kernel
theorem dX1_offer_11 : decode cX1_offer 11 = .ok (.putfield 17, 3) := by decide +kernel
theorem dX1_offer_14 : decode cX1_offer 14 = .ok (.aload_n 3, 1) := by decide +kernel
theorem dX1_offer_15 : decode cX1_offer 15 = .ok (.iconst 0, 1) := by decide +kernel
theorem dX1_offer_16 : decode cX1_offer 16 = .ok (.aload_n 0, 1) := by decide +kernel
theorem dX1_offer_17 : decode cX1_offer 17 = .ok (.getfield 9, 3) := by decide +kernel
theorem dX1_offer_20 : decode cX1_offer 20 = .ok (.iconst 0, 1) := by decide +kernel
theorem dX1_offer_21 : decode cX1_offer 21 = .ok (.bipush 6, 2) := by decide +kernel
theorem dX1_offer_23 : decode cX1_offer 23 = .ok (.invokestatic 21, 3) := by decide +kernel
theorem dX1_offer_26 : decode cX1_offer 26 = .ok (.return_, 1) := by decide +kernel
end
section
theorem dX2_init_0 : decode cX2_init 0 = .ok (.aload_n 0, 1) := by decide +kernel
theorem dX2_init_1 : decode cX2_init 1 = .ok (.invokespecial 3, 3) := by decide +kernel
theorem dX2_init_4 : decode cX2_init 4 = .ok (.aload_n 0, 1) := by decide +kernel
theorem dX2_init_5 : decode cX2_init 5 = .ok (.iconst 0, 1) := by decide +kernel
theorem dX2_init_6 : decode cX2_init 6 = .ok (.putfield 9, 3) := by decide +kernel
theorem dX2_init_9 : decode cX2_init 9 = .ok (.aload_n 0, 1) := by decide +kernel
theorem dX2_init_10 : decode cX2_init 10 = .ok (.iconst 0, 1) := by decide +kernel
theorem dX2_init_11 : decode cX2_init 11 = .ok (.putfield 15, 3) := by decide +kernel
theorem dX2_init_14 : decode cX2_init 14 = .ok (.aload_n 0, 1) := by decide +kernel
theorem dX2_init_15 : decode cX2_init 15 = .ok (.bipush 6, 2) := by decide +kernel
theorem dX2_init_17 : decode cX2_init 17 = .ok (.newarray .int, 2) := by decide +kernel
theorem dX2_init_19 : decode cX2_init 19 = .ok (.putfield 19, 3) := by decide +kernel
theorem dX2_init_22 : decode cX2_init 22 = .ok (.aload_n 0, 1) := by decide +kernel
theorem dX2_init_23 : decode cX2_init 23 = .ok (.bipush 6, 2) := by decide +kernel
theorem dX2_init_25 : decode cX2_init 25 = .ok (.newarray .int, 2) := by decide +kernel
theorem dX2_init_27 : decode cX2_init 27 = .ok (.putfield 23, 3) := by decide +kernel
theorem dX2_init_30 : decode cX2_init 30 = .ok (.aload_n 0, 1) := by decide +kernel
theorem dX2_init_31 : decode cX2_init 31 = .ok (.bipush 6, 2) := by decide +kernel
theorem dX2_init_33 : decode cX2_init 33 = .ok (.newarray .int, 2) := by decide +kernel
theorem dX2_init_35 : decode cX2_init 35 = .ok (.putfield 26, 3) := by decide +kernel
theorem dX2_init_38 : decode cX2_init 38 = .ok (.aload_n 0, 1) := by decide +kernel
theorem dX2_init_39 : decode cX2_init 39 = .ok (.bipush 6, 2) := by decide +kernel
theorem dX2_init_41 : decode cX2_init 41 = .ok (.newarray .int, 2) := by decide +kernel
theorem dX2_init_43 : decode cX2_init 43 = .ok (.putfield 29, 3) := by decide +kernel
theorem dX2_init_46 : decode cX2_init 46 = .ok (.aload_n 0, 1) := by decide +kernel
theorem dX2_init_47 : decode cX2_init 47 = .ok (.iconst 0, 1) := by decide +kernel
theorem dX2_init_48 : decode cX2_init 48 = .ok (.putfield 32, 3) := by decide +kernel
theorem dX2_init_51 : decode cX2_init 51 = .ok (.return_, 1) := by decide +kernel
theorem dX2_read_0 : decode cX2_read 0 = .ok (.aload_n 0, 1) := by decide +kernel
theorem dX2_read_1 : decode cX2_read 1 = .ok (.iconst 1, 1) := by decide +kernel
theorem dX2_read_2 : decode cX2_read 2 = .ok (.putfield 9, 3) := by decide +kernel
theorem dX2_read_5 : decode cX2_read 5 = .ok (.aload_n 0, 1) := by decide +kernel
theorem dX2_read_6 : decode cX2_read 6 = .ok (.iconst 0, 1) := by decide +kernel
theorem dX2_read_7 : decode cX2_read 7 = .ok (.putfield 15, 3) := by decide +kernel
theorem dX2_read_10 : decode cX2_read 10 = .ok (.iconst 0, 1) := by decide +kernel
theorem dX2_read_11 : decode cX2_read 11 = .ok (.istore_n 2, 1) := by decide +kernel
theorem dX2_read_12 : decode cX2_read 12 = .ok (.iconst 0, 1) := by decide +kernel
theorem dX2_read_13 : decode cX2_read 13 = .ok (.istore_n 3, 1) := by decide +kernel
theorem dX2_read_14 : decode cX2_read 14 = .ok (.iload_n 3, 1) := by decide +kernel
theorem dX2_read_15 : decode cX2_read 15 = .ok (.aload_n 1, 1) := by decide +kernel
theorem dX2_read_16 : decode cX2_read 16 = .ok (.getfield 37, 3) := by decide +kernel
theorem dX2_read_19 : decode cX2_read 19 = .ok (.if_icmp .ge 83, 3) := by decide +kernel
theorem dX2_read_22 : decode cX2_read 22 = .ok (.aload_n 1, 1) := by decide +kernel
theorem dX2_read_23 : decode cX2_read 23 = .ok (.getfield 40, 3) := by decide +kernel
theorem dX2_read_26 : decode cX2_read 26 = .ok (.iload_n 3, 1) := by decide +kernel
theorem dX2_read_27 : decode cX2_read 27 = .ok (.iaload, 1) := by decide +kernel
theorem dX2_read_28 : decode cX2_read 28 = .ok (.istore 4, 2) := by decide +kernel
theorem dX2_read_30 : decode cX2_read 30 = .ok (.iload_n 2, 1) := by decide +kernel
theorem dX2_read_31 : decode cX2_read 31 = .ok (.ifCond .ne 23, 3) := by decide +kernel
theorem dX2_read_34 : decode cX2_read 34 = .ok (.iload 4, 2) := by decide +kernel
theorem dX2_read_36 : decode cX2_read 36 = .ok (.invokestatic 43, 3) := by decide +kernel
theorem dX2_read_39 : decode cX2_read 39 = .ok (.ifCond .ne 15, 3) := by decide +kernel
theorem dX2_read_42 : decode cX2_read 42 = .ok (.aload_n 0, 1) := by decide +kernel
theorem dX2_read_43 : decode cX2_read 43 = .ok (.iload 4, 2) := by decide +kernel
theorem dX2_read_45 : decode cX2_read 45 = .ok (.bipush 48, 2) := by decide +kernel
theorem dX2_read_47 : decode cX2_read 47 = .ok (.isub, 1) := by decide +kernel
theorem dX2_read_48 : decode cX2_read 48 = .ok (.putfield 32, 3) := by decide +kernel
theorem dX2_read_51 : decode cX2_read 51 = .ok (.goto 38, 3) := by decide +kernel
theorem dX2_read_54 : decode cX2_read 54 = .ok (.iload_n 2, 1) := by decide +kernel
theorem dX2_read_55 : decode cX2_read 55 = .ok (.bipush 6, 2) := by decide +kernel
theorem dX2_read_57 : decode cX2_read 57 = .ok (.if_icmp .ne 16, 3) := by decide +kernel
theorem dX2_read_60 : decode cX2_read 60 = .ok (.aload_n 0, 1) := by decide +kernel
theorem dX2_read_61 : decode cX2_read 61 = .ok (.dup, 1) := by decide +kernel
theorem dX2_read_62 : decode cX2_read 62 = .ok (.getfield 15, 3) := by decide +kernel
theorem dX2_read_65 : decode cX2_read 65 = .ok (.iconst 1, 1) := by decide +kernel
theorem dX2_read_66 : decode cX2_read 66 = .ok (.iadd, 1) := by decide +kernel
theorem dX2_read_67 : decode cX2_read 67 = .ok (.putfield 15, 3) := by decide +kernel
theorem dX2_read_70 : decode cX2_read 70 = .ok (.goto 19, 3) := by decide +kernel
theorem dX2_read_73 : decode cX2_read 73 = .ok (.aload_n 0, 1) := by decide +kernel
theorem dX2_read_74 : decode cX2_read 74 = .ok (.getfield 15, 3) := by decide +kernel
theorem dX2_read_77 : decode cX2_read 77 = .ok (.bipush 6, 2) := by decide +kernel
theorem dX2_read_79 : decode cX2_read 79 = .ok (.if_icmp .ge 10, 3) := by decide +kernel
theorem dX2_read_82 : decode cX2_read 82 = .ok (.aload_n 0, 1) := by decide +kernel
theorem dX2_read_83 : decode cX2_read 83 = .ok (.iload_n 2, 1) := by decide +kernel
theorem dX2_read_84 : decode cX2_read 84 = .ok (.iload 4, 2) := by decide +kernel
theorem dX2_read_86 : decode cX2_read 86 = .ok (.invokevirtual 47, 3) := by decide +kernel
theorem dX2_read_89 : decode cX2_read 89 = .ok (.iload_n 2, 1) := by decide +kernel
theorem dX2_read_90 : decode cX2_read 90 = .ok (.iload 4, 2) := by decide +kernel
theorem dX2_read_92 : decode cX2_read 92 = .ok (.invokestatic 51, 3) := by decide +kernel
theorem dX2_read_95 : decode cX2_read 95 = .ok (.istore_n 2, 1) := by decide +kernel
theorem dX2_read_96 : decode cX2_read 96 = .ok (.iinc 3 1, 3) := by decide +kernel
theorem dX2_read_99 : decode cX2_read 99 = .ok (.goto (-85), 3) := by decide +kernel
theorem dX2_read_102 : decode cX2_read 102 = .ok (.return_, 1) := by decide +kernel
theorem dX2_readInClause_0 : decode cX2_readInClause 0 = .ok (.iload_n 1, 1) := by decide +kernel
theorem dX2_readInClause_1 : decode cX2_readInClause 1 = .ok (.tableswitch 133 0 5 #[39, 52, 65, 81, 133, 117], 39) := by decide +kernel
theorem dX2_readInClause_40 : decode cX2_readInClause 40 = .ok (.aload_n 0, 1) := by decide +kernel
theorem dX2_readInClause_41 : decode cX2_readInClause 41 = .ok (.getfield 19, 3) := by decide +kernel
theorem dX2_readInClause_44 : decode cX2_readInClause 44 = .ok (.aload_n 0, 1) := by decide +kernel
theorem dX2_readInClause_45 : decode cX2_readInClause 45 = .ok (.getfield 15, 3) := by decide +kernel
theorem dX2_readInClause_48 : decode cX2_readInClause 48 = .ok (.iload_n 2, 1) := by decide +kernel
theorem dX2_readInClause_49 : decode cX2_readInClause 49 = .ok (.iastore, 1) := by decide +kernel
theorem dX2_readInClause_50 : decode cX2_readInClause 50 = .ok (.goto 84, 3) := by decide +kernel
theorem dX2_readInClause_53 : decode cX2_readInClause 53 = .ok (.aload_n 0, 1) := by decide +kernel
theorem dX2_readInClause_54 : decode cX2_readInClause 54 = .ok (.getfield 23, 3) := by decide +kernel
theorem dX2_readInClause_57 : decode cX2_readInClause 57 = .ok (.aload_n 0, 1) := by decide +kernel
theorem dX2_readInClause_58 : decode cX2_readInClause 58 = .ok (.getfield 15, 3) := by decide +kernel
theorem dX2_readInClause_61 : decode cX2_readInClause 61 = .ok (.iload_n 2, 1) := by decide +kernel
theorem dX2_readInClause_62 : decode cX2_readInClause 62 = .ok (.iastore, 1) := by decide +kernel
theorem dX2_readInClause_63 : decode cX2_readInClause 63 = .ok (.goto 71, 3) := by decide +kernel
theorem dX2_readInClause_66 : decode cX2_readInClause 66 = .ok (.aload_n 0, 1) := by decide +kernel
theorem dX2_readInClause_67 : decode cX2_readInClause 67 = .ok (.getfield 26, 3) := by decide +kernel
theorem dX2_readInClause_70 : decode cX2_readInClause 70 = .ok (.aload_n 0, 1) := by decide +kernel
theorem dX2_readInClause_71 : decode cX2_readInClause 71 = .ok (.getfield 15, 3) := by decide +kernel
theorem dX2_readInClause_74 : decode cX2_readInClause 74 = .ok (.iload_n 2, 1) := by decide +kernel
theorem dX2_readInClause_75 : decode cX2_readInClause 75 = .ok (.bipush 48, 2) := by decide +kernel
theorem dX2_readInClause_77 : decode cX2_readInClause 77 = .ok (.isub, 1) := by decide +kernel
theorem dX2_readInClause_78 : decode cX2_readInClause 78 = .ok (.iastore, 1) := by decide +kernel
theorem dX2_readInClause_79 : decode cX2_readInClause 79 = .ok (.goto 55, 3) := by decide +kernel
theorem dX2_readInClause_82 : decode cX2_readInClause 82 = .ok (.iload_n 2, 1) := by decide +kernel
theorem dX2_readInClause_83 : decode cX2_readInClause 83 = .ok (.invokestatic 55, 3) := by decide +kernel
theorem dX2_readInClause_86 : decode cX2_readInClause 86 = .ok (.ifCond .eq 48, 3) := by decide +kernel
theorem dX2_readInClause_89 : decode cX2_readInClause 89 = .ok (.aload_n 0, 1) := by decide +kernel
theorem dX2_readInClause_90 : decode cX2_readInClause 90 = .ok (.getfield 26, 3) := by decide +kernel
theorem dX2_readInClause_93 : decode cX2_readInClause 93 = .ok (.aload_n 0, 1) := by decide +kernel
theorem dX2_readInClause_94 : decode cX2_readInClause 94 = .ok (.getfield 15, 3) := by decide +kernel
theorem dX2_readInClause_97 : decode cX2_readInClause 97 = .ok (.aload_n 0, 1) := by decide +kernel
theorem dX2_readInClause_98 : decode cX2_readInClause 98 = .ok (.getfield 26, 3) := by decide +kernel
theorem dX2_readInClause_101 : decode cX2_readInClause 101 = .ok (.aload_n 0, 1) := by decide +kernel
theorem dX2_readInClause_102 : decode cX2_readInClause 102 = .ok (.getfield 15, 3) := by decide +kernel
theorem dX2_readInClause_105 : decode cX2_readInClause 105 = .ok (.iaload, 1) := by decide +kernel
theorem dX2_readInClause_106 : decode cX2_readInClause 106 = .ok (.bipush 10, 2) := by decide +kernel
theorem dX2_readInClause_108 : decode cX2_readInClause 108 = .ok (.imul, 1) := by decide +kernel
theorem dX2_readInClause_109 : decode cX2_readInClause 109 = .ok (.iload_n 2, 1) := by decide +kernel
theorem dX2_readInClause_110 : decode cX2_readInClause 110 = .ok (.iadd, 1) := by decide +kernel
theorem dX2_readInClause_111 : decode cX2_readInClause 111 = .ok (.bipush 48, 2) := by decide +kernel
theorem dX2_readInClause_113 : decode cX2_readInClause 113 = .ok (.isub, 1) := by decide +kernel
theorem dX2_readInClause_114 : decode cX2_readInClause 114 = .ok (.iastore, 1) := by decide +kernel
theorem dX2_readInClause_115 : decode cX2_readInClause 115 = .ok (.goto 19, 3) := by decide +kernel
theorem dX2_readInClause_118 : decode cX2_readInClause 118 = .ok (.aload_n 0, 1) := by decide +kernel
theorem dX2_readInClause_119 : decode cX2_readInClause 119 = .ok (.getfield 29, 3) := by decide +kernel
theorem dX2_readInClause_122 : decode cX2_readInClause 122 = .ok (.aload_n 0, 1) := by decide +kernel
theorem dX2_readInClause_123 : decode cX2_readInClause 123 = .ok (.getfield 15, 3) := by decide +kernel
theorem dX2_readInClause_126 : decode cX2_readInClause 126 = .ok (.iload_n 2, 1) := by decide +kernel
theorem dX2_readInClause_127 : decode cX2_readInClause 127 = .ok (.bipush 48, 2) := by decide +kernel
theorem dX2_readInClause_129 : decode cX2_readInClause 129 = .ok (.isub, 1) := by decide +kernel
theorem dX2_readInClause_130 : decode cX2_readInClause 130 = .ok (.iastore, 1) := by decide +kernel
theorem dX2_readInClause_131 : decode cX2_readInClause 131 = .ok (.goto 3, 3) := by decide +kernel
theorem dX2_readInClause_134 : decode cX2_readInClause 134 = .ok (.return_, 1) := by decide +kernel
theorem dX2_numberFor_0 : decode cX2_numberFor 0 = .ok (.aload_n 0, 1) := by decide +kernel
theorem dX2_numberFor_1 : decode cX2_numberFor 1 = .ok (.getfield 32, 3) := by decide +kernel
theorem dX2_numberFor_4 : decode cX2_numberFor 4 = .ok (.istore 4, 2) := by decide +kernel
theorem dX2_numberFor_6 : decode cX2_numberFor 6 = .ok (.aload_n 0, 1) := by decide +kernel
theorem dX2_numberFor_7 : decode cX2_numberFor 7 = .ok (.getfield 15, 3) := by decide +kernel
theorem dX2_numberFor_10 : decode cX2_numberFor 10 = .ok (.iconst 1, 1) := by decide +kernel
theorem dX2_numberFor_11 : decode cX2_numberFor 11 = .ok (.isub, 1) := by decide +kernel
theorem dX2_numberFor_12 : decode cX2_numberFor 12 = .ok (.istore 5, 2) := by decide +kernel
theorem dX2_numberFor_14 : decode cX2_numberFor 14 = .ok (.iload 5, 2) := by decide +kernel
theorem dX2_numberFor_16 : decode cX2_numberFor 16 = .ok (.ifCond .lt 44, 3) := by decide +kernel
theorem dX2_numberFor_19 : decode cX2_numberFor 19 = .ok (.aload_n 0, 1) := by decide +kernel
theorem dX2_numberFor_20 : decode cX2_numberFor 20 = .ok (.iload 5, 2) := by decide +kernel
theorem dX2_numberFor_22 : decode cX2_numberFor 22 = .ok (.aload_n 0, 1) := by decide +kernel
theorem dX2_numberFor_23 : decode cX2_numberFor 23 = .ok (.getfield 19, 3) := by decide +kernel
theorem dX2_numberFor_26 : decode cX2_numberFor 26 = .ok (.iload 5, 2) := by decide +kernel
theorem dX2_numberFor_28 : decode cX2_numberFor 28 = .ok (.iaload, 1) := by decide +kernel
theorem dX2_numberFor_29 : decode cX2_numberFor 29 = .ok (.bipush 108, 2) := by decide +kernel
theorem dX2_numberFor_31 : decode cX2_numberFor 31 = .ok (.if_icmp .ne 7, 3) := by decide +kernel
theorem dX2_numberFor_34 : decode cX2_numberFor 34 = .ok (.iload_n 2, 1) := by decide +kernel
theorem dX2_numberFor_35 : decode cX2_numberFor 35 = .ok (.goto 4, 3) := by decide +kernel
theorem dX2_numberFor_38 : decode cX2_numberFor 38 = .ok (.iload_n 1, 1) := by decide +kernel
theorem dX2_numberFor_39 : decode cX2_numberFor 39 = .ok (.invokevirtual 58, 3) := by decide +kernel
theorem dX2_numberFor_42 : decode cX2_numberFor 42 = .ok (.ifCond .eq 12, 3) := by decide +kernel
theorem dX2_numberFor_45 : decode cX2_numberFor 45 = .ok (.aload_n 0, 1) := by decide +kernel
theorem dX2_numberFor_46 : decode cX2_numberFor 46 = .ok (.getfield 29, 3) := by decide +kernel
theorem dX2_numberFor_49 : decode cX2_numberFor 49 = .ok (.iload 5, 2) := by decide +kernel
theorem dX2_numberFor_51 : decode cX2_numberFor 51 = .ok (.iaload, 1) := by decide +kernel
theorem dX2_numberFor_52 : decode cX2_numberFor 52 = .ok (.istore 4, 2) := by decide +kernel
theorem dX2_numberFor_54 : decode cX2_numberFor 54 = .ok (.iinc 5 (-1), 3) := by decide +kernel
theorem dX2_numberFor_57 : decode cX2_numberFor 57 = .ok (.goto (-43), 3) := by decide +kernel
theorem dX2_numberFor_60 : decode cX2_numberFor 60 = .ok (.iload 4, 2) := by decide +kernel
theorem dX2_numberFor_62 : decode cX2_numberFor 62 = .ok (.iload_n 3, 1) := by decide +kernel
theorem dX2_numberFor_63 : decode cX2_numberFor 63 = .ok (.iconst 1, 1) := by decide +kernel
theorem dX2_numberFor_64 : decode cX2_numberFor 64 = .ok (.isub, 1) := by decide +kernel
theorem dX2_numberFor_65 : decode cX2_numberFor 65 = .ok (.invokestatic 62, 3) := by decide +kernel
theorem dX2_numberFor_68 : decode cX2_numberFor 68 = .ok (.ireturn, 1) := by decide +kernel
theorem dX2_isSo_0 : decode cX2_isSo 0 = .ok (.aload_n 0, 1) := by decide +kernel
theorem dX2_isSo_1 : decode cX2_isSo 1 = .ok (.getfield 23, 3) := by decide +kernel
theorem dX2_isSo_4 : decode cX2_isSo 4 = .ok (.iload_n 1, 1) := by decide +kernel
theorem dX2_isSo_5 : decode cX2_isSo 5 = .ok (.iaload, 1) := by decide +kernel
theorem dX2_isSo_6 : decode cX2_isSo 6 = .ok (.lookupswitch 58 #[(60, 26), (62, 42)], 26) := by decide +kernel
theorem dX2_isSo_32 : decode cX2_isSo 32 = .ok (.iload_n 2, 1) := by decide +kernel
theorem dX2_isSo_33 : decode cX2_isSo 33 = .ok (.aload_n 0, 1) := by decide +kernel
theorem dX2_isSo_34 : decode cX2_isSo 34 = .ok (.getfield 26, 3) := by decide +kernel
theorem dX2_isSo_37 : decode cX2_isSo 37 = .ok (.iload_n 1, 1) := by decide +kernel
theorem dX2_isSo_38 : decode cX2_isSo 38 = .ok (.iaload, 1) := by decide +kernel
theorem dX2_isSo_39 : decode cX2_isSo 39 = .ok (.if_icmp .ge 7, 3) := by decide +kernel
theorem dX2_isSo_42 : decode cX2_isSo 42 = .ok (.iconst 1, 1) := by decide +kernel
theorem dX2_isSo_43 : decode cX2_isSo 43 = .ok (.goto 4, 3) := by decide +kernel
theorem dX2_isSo_46 : decode cX2_isSo 46 = .ok (.iconst 0, 1) := by decide +kernel
theorem dX2_isSo_47 : decode cX2_isSo 47 = .ok (.ireturn, 1) := by decide +kernel
theorem dX2_isSo_48 : decode cX2_isSo 48 = .ok (.iload_n 2, 1) := by decide +kernel
theorem dX2_isSo_49 : decode cX2_isSo 49 = .ok (.aload_n 0, 1) := by decide +kernel
theorem dX2_isSo_50 : decode cX2_isSo 50 = .ok (.getfield 26, 3) := by decide +kernel
theorem dX2_isSo_53 : decode cX2_isSo 53 = .ok (.iload_n 1, 1) := by decide +kernel
theorem dX2_isSo_54 : decode cX2_isSo 54 = .ok (.iaload, 1) := by decide +kernel
theorem dX2_isSo_55 : decode cX2_isSo 55 = .ok (.if_icmp .le 7, 3) := by decide +kernel
theorem dX2_isSo_58 : decode cX2_isSo 58 = .ok (.iconst 1, 1) := by decide +kernel
theorem dX2_isSo_59 : decode cX2_isSo 59 = .ok (.goto 4, 3) := by decide +kernel
theorem dX2_isSo_62 : decode cX2_isSo 62 = .ok (.iconst 0, 1) := by decide +kernel
theorem dX2_isSo_63 : decode cX2_isSo 63 = .ok (.ireturn, 1) := by decide +kernel
theorem dX2_isSo_64 : decode cX2_isSo 64 = .ok (.iload_n 2, 1) := by decide +kernel
theorem dX2_isSo_65 : decode cX2_isSo 65 = .ok (.aload_n 0, 1) := by decide +kernel
theorem dX2_isSo_66 : decode cX2_isSo 66 = .ok (.getfield 26, 3) := by decide +kernel
theorem dX2_isSo_69 : decode cX2_isSo 69 = .ok (.iload_n 1, 1) := by decide +kernel
theorem dX2_isSo_70 : decode cX2_isSo 70 = .ok (.iaload, 1) := by decide +kernel
theorem dX2_isSo_71 : decode cX2_isSo 71 = .ok (.if_icmp .ne 7, 3) := by decide +kernel
theorem dX2_isSo_74 : decode cX2_isSo 74 = .ok (.iconst 1, 1) := by decide +kernel
theorem dX2_isSo_75 : decode cX2_isSo 75 = .ok (.goto 4, 3) := by decide +kernel
theorem dX2_isSo_78 : decode cX2_isSo 78 = .ok (.iconst 0, 1) := by decide +kernel
theorem dX2_isSo_79 : decode cX2_isSo 79 = .ok (.ireturn, 1) := by decide +kernel
end
section
theorem dX3_init_0 : decode cX3_init 0 = .ok (.aload_n 0, 1) := by decide +kernel
theorem dX3_init_1 : decode cX3_init 1 = .ok (.invokespecial 3, 3) := by decide +kernel
theorem dX3_init_4 : decode cX3_init 4 = .ok (.aload_n 0, 1) := by decide +kernel
theorem dX3_init_5 : decode cX3_init 5 = .ok (.iconst 4, 1) := by decide +kernel
theorem dX3_init_6 : decode cX3_init 6 = .ok (.putfield 9, 3) := by decide +kernel
theorem dX3_init_9 : decode cX3_init 9 = .ok (.aload_n 0, 1) := by decide +kernel
theorem dX3_init_10 : decode cX3_init 10 = .ok (.iconst 3, 1) := by decide +kernel
theorem dX3_init_11 : decode cX3_init 11 = .ok (.putfield 15, 3) := by decide +kernel
theorem dX3_init_14 : decode cX3_init 14 = .ok (.aload_n 0, 1) := by decide +kernel
theorem dX3_init_15 : decode cX3_init 15 = .ok (.iconst 0, 1) := by decide +kernel
theorem dX3_init_16 : decode cX3_init 16 = .ok (.putfield 18, 3) := by decide +kernel
theorem dX3_init_19 : decode cX3_init 19 = .ok (.aload_n 0, 1) := by decide +kernel
theorem dX3_init_20 : decode cX3_init 20 = .ok (.iconst 5, 1) := by decide +kernel
theorem dX3_init_21 : decode cX3_init 21 = .ok (.newarray .int, 2) := by decide +kernel
theorem dX3_init_23 : decode cX3_init 23 = .ok (.putfield 21, 3) := by decide +kernel
theorem dX3_init_26 : decode cX3_init 26 = .ok (.aload_n 0, 1) := by decide +kernel
theorem dX3_init_27 : decode cX3_init 27 = .ok (.iconst 0, 1) := by decide +kernel
theorem dX3_init_28 : decode cX3_init 28 = .ok (.putfield 25, 3) := by decide +kernel
theorem dX3_init_31 : decode cX3_init 31 = .ok (.aload_n 0, 1) := by decide +kernel
theorem dX3_init_32 : decode cX3_init 32 = .ok (.iconst 3, 1) := by decide +kernel
theorem dX3_init_33 : decode cX3_init 33 = .ok (.newarray .int, 2) := by decide +kernel
theorem dX3_init_35 : decode cX3_init 35 = .ok (.putfield 28, 3) := by decide +kernel
theorem dX3_init_38 : decode cX3_init 38 = .ok (.aload_n 0, 1) := by decide +kernel
theorem dX3_init_39 : decode cX3_init 39 = .ok (.iconst 3, 1) := by decide +kernel
theorem dX3_init_40 : decode cX3_init 40 = .ok (.newarray .int, 2) := by decide +kernel
theorem dX3_init_42 : decode cX3_init 42 = .ok (.putfield 31, 3) := by decide +kernel
theorem dX3_init_45 : decode cX3_init 45 = .ok (.aload_n 0, 1) := by decide +kernel
theorem dX3_init_46 : decode cX3_init 46 = .ok (.iconst 3, 1) := by decide +kernel
theorem dX3_init_47 : decode cX3_init 47 = .ok (.newarray .int, 2) := by decide +kernel
theorem dX3_init_49 : decode cX3_init 49 = .ok (.putfield 34, 3) := by decide +kernel
theorem dX3_init_52 : decode cX3_init 52 = .ok (.aload_n 0, 1) := by decide +kernel
theorem dX3_init_53 : decode cX3_init 53 = .ok (.iconst 3, 1) := by decide +kernel
theorem dX3_init_54 : decode cX3_init 54 = .ok (.newarray .int, 2) := by decide +kernel
theorem dX3_init_56 : decode cX3_init 56 = .ok (.putfield 37, 3) := by decide +kernel
theorem dX3_init_59 : decode cX3_init 59 = .ok (.aload_n 0, 1) := by decide +kernel
theorem dX3_init_60 : decode cX3_init 60 = .ok (.iconst 0, 1) := by decide +kernel
theorem dX3_init_61 : decode cX3_init 61 = .ok (.putfield 40, 3) := by decide +kernel
theorem dX3_init_64 : decode cX3_init 64 = .ok (.aload_n 0, 1) := by decide +kernel
theorem dX3_init_65 : decode cX3_init 65 = .ok (.iconst 0, 1) := by decide +kernel
theorem dX3_init_66 : decode cX3_init 66 = .ok (.putfield 43, 3) := by decide +kernel
theorem dX3_init_69 : decode cX3_init 69 = .ok (.return_, 1) := by decide +kernel
theorem dX3_isPrice_0 : decode cX3_isPrice 0 = .ok (.iload_n 1, 1) := by decide +kernel
theorem dX3_isPrice_1 : decode cX3_isPrice 1 = .ok (.ifCond .lt 15, 3) := by decide +kernel
theorem dX3_isPrice_4 : decode cX3_isPrice 4 = .ok (.iload_n 1, 1) := by decide +kernel
theorem dX3_isPrice_5 : decode cX3_isPrice 5 = .ok (.aload_n 0, 1) := by decide +kernel
theorem dX3_isPrice_6 : decode cX3_isPrice 6 = .ok (.getfield 25, 3) := by decide +kernel
theorem dX3_isPrice_9 : decode cX3_isPrice 9 = .ok (.if_icmp .ge 7, 3) := by decide +kernel
theorem dX3_isPrice_12 : decode cX3_isPrice 12 = .ok (.iconst 1, 1) := by decide +kernel
theorem dX3_isPrice_13 : decode cX3_isPrice 13 = .ok (.goto 4, 3) := by decide +kernel
theorem dX3_isPrice_16 : decode cX3_isPrice 16 = .ok (.iconst 0, 1) := by decide +kernel
theorem dX3_isPrice_17 : decode cX3_isPrice 17 = .ok (.ireturn, 1) := by decide +kernel
theorem dX3_isSort_0 : decode cX3_isSort 0 = .ok (.iload_n 1, 1) := by decide +kernel
theorem dX3_isSort_1 : decode cX3_isSort 1 = .ok (.ifCond .lt 15, 3) := by decide +kernel
theorem dX3_isSort_4 : decode cX3_isSort 4 = .ok (.iload_n 1, 1) := by decide +kernel
theorem dX3_isSort_5 : decode cX3_isSort 5 = .ok (.aload_n 0, 1) := by decide +kernel
theorem dX3_isSort_6 : decode cX3_isSort 6 = .ok (.getfield 40, 3) := by decide +kernel
theorem dX3_isSort_9 : decode cX3_isSort 9 = .ok (.if_icmp .ge 7, 3) := by decide +kernel
theorem dX3_isSort_12 : decode cX3_isSort 12 = .ok (.iconst 1, 1) := by decide +kernel
theorem dX3_isSort_13 : decode cX3_isSort 13 = .ok (.goto 4, 3) := by decide +kernel
theorem dX3_isSort_16 : decode cX3_isSort 16 = .ok (.iconst 0, 1) := by decide +kernel
theorem dX3_isSort_17 : decode cX3_isSort 17 = .ok (.ireturn, 1) := by decide +kernel
theorem dX3_isWaiting_0 : decode cX3_isWaiting 0 = .ok (.aload_n 0, 1) := by decide +kernel
theorem dX3_isWaiting_1 : decode cX3_isWaiting 1 = .ok (.getfield 37, 3) := by decide +kernel
theorem dX3_isWaiting_4 : decode cX3_isWaiting 4 = .ok (.iload_n 1, 1) := by decide +kernel
theorem dX3_isWaiting_5 : decode cX3_isWaiting 5 = .ok (.iaload, 1) := by decide +kernel
theorem dX3_isWaiting_6 : decode cX3_isWaiting 6 = .ok (.iconst (-1), 1) := by decide +kernel
theorem dX3_isWaiting_7 : decode cX3_isWaiting 7 = .ok (.if_icmp .eq 7, 3) := by decide +kernel
theorem dX3_isWaiting_10 : decode cX3_isWaiting 10 = .ok (.iconst 1, 1) := by decide +kernel
theorem dX3_isWaiting_11 : decode cX3_isWaiting 11 = .ok (.goto 4, 3) := by decide +kernel
theorem dX3_isWaiting_14 : decode cX3_isWaiting 14 = .ok (.iconst 0, 1) := by decide +kernel
theorem dX3_isWaiting_15 : decode cX3_isWaiting 15 = .ok (.ireturn, 1) := by decide +kernel
theorem dX3_waitTold_0 : decode cX3_waitTold 0 = .ok (.aload_n 0, 1) := by decide +kernel
theorem dX3_waitTold_1 : decode cX3_waitTold 1 = .ok (.iload_n 1, 1) := by decide +kernel
theorem dX3_waitTold_2 : decode cX3_waitTold 2 = .ok (.invokevirtual 46, 3) := by decide +kernel
theorem dX3_waitTold_5 : decode cX3_waitTold 5 = .ok (.ifCond .eq 12, 3) := by decide +kernel
theorem dX3_waitTold_8 : decode cX3_waitTold 8 = .ok (.aload_n 0, 1) := by decide +kernel
theorem dX3_waitTold_9 : decode cX3_waitTold 9 = .ok (.getfield 37, 3) := by decide +kernel
theorem dX3_waitTold_12 : decode cX3_waitTold 12 = .ok (.iload_n 1, 1) := by decide +kernel
theorem dX3_waitTold_13 : decode cX3_waitTold 13 = .ok (.iaload, 1) := by decide +kernel
theorem dX3_waitTold_14 : decode cX3_waitTold 14 = .ok (.goto 5, 3) := by decide +kernel
theorem dX3_waitTold_17 : decode cX3_waitTold 17 = .ok (.bipush (-6), 2) := by decide +kernel
theorem dX3_waitTold_19 : decode cX3_waitTold 19 = .ok (.ireturn, 1) := by decide +kernel
theorem dX3_worthOn_0 : decode cX3_worthOn 0 = .ok (.iconst 0, 1) := by decide +kernel
theorem dX3_worthOn_1 : decode cX3_worthOn 1 = .ok (.aload_n 0, 1) := by decide +kernel
theorem dX3_worthOn_2 : decode cX3_worthOn 2 = .ok (.getfield 31, 3) := by decide +kernel
theorem dX3_worthOn_5 : decode cX3_worthOn 5 = .ok (.iload_n 1, 1) := by decide +kernel
theorem dX3_worthOn_6 : decode cX3_worthOn 6 = .ok (.iaload, 1) := by decide +kernel
theorem dX3_worthOn_7 : decode cX3_worthOn 7 = .ok (.aload_n 0, 1) := by decide +kernel
theorem dX3_worthOn_8 : decode cX3_worthOn 8 = .ok (.getfield 34, 3) := by decide +kernel
theorem dX3_worthOn_11 : decode cX3_worthOn 11 = .ok (.iload_n 1, 1) := by decide +kernel
theorem dX3_worthOn_12 : decode cX3_worthOn 12 = .ok (.iaload, 1) := by decide +kernel
theorem dX3_worthOn_13 : decode cX3_worthOn 13 = .ok (.iload_n 2, 1) := by decide +kernel
theorem dX3_worthOn_14 : decode cX3_worthOn 14 = .ok (.imul, 1) := by decide +kernel
theorem dX3_worthOn_15 : decode cX3_worthOn 15 = .ok (.isub, 1) := by decide +kernel
theorem dX3_worthOn_16 : decode cX3_worthOn 16 = .ok (.invokestatic 50, 3) := by decide +kernel
theorem dX3_worthOn_19 : decode cX3_worthOn 19 = .ok (.ireturn, 1) := by decide +kernel
theorem dX3_chanceToBuy_0 : decode cX3_chanceToBuy 0 = .ok (.aload_n 0, 1) := by decide +kernel
theorem dX3_chanceToBuy_1 : decode cX3_chanceToBuy 1 = .ok (.iload_n 1, 1) := by decide +kernel
theorem dX3_chanceToBuy_2 : decode cX3_chanceToBuy 2 = .ok (.iload_n 2, 1) := by decide +kernel
theorem dX3_chanceToBuy_3 : decode cX3_chanceToBuy 3 = .ok (.invokevirtual 56, 3) := by decide +kernel
theorem dX3_chanceToBuy_6 : decode cX3_chanceToBuy 6 = .ok (.aload_n 0, 1) := by decide +kernel
theorem dX3_chanceToBuy_7 : decode cX3_chanceToBuy 7 = .ok (.getfield 21, 3) := by decide +kernel
theorem dX3_chanceToBuy_10 : decode cX3_chanceToBuy 10 = .ok (.iload_n 3, 1) := by decide +kernel
theorem dX3_chanceToBuy_11 : decode cX3_chanceToBuy 11 = .ok (.iaload, 1) := by decide +kernel
theorem dX3_chanceToBuy_12 : decode cX3_chanceToBuy 12 = .ok (.if_icmp .lt 12, 3) := by decide +kernel
theorem dX3_chanceToBuy_15 : decode cX3_chanceToBuy 15 = .ok (.aload_n 0, 1) := by decide +kernel
theorem dX3_chanceToBuy_16 : decode cX3_chanceToBuy 16 = .ok (.getfield 28, 3) := by decide +kernel
theorem dX3_chanceToBuy_19 : decode cX3_chanceToBuy 19 = .ok (.iload_n 1, 1) := by decide +kernel
theorem dX3_chanceToBuy_20 : decode cX3_chanceToBuy 20 = .ok (.iaload, 1) := by decide +kernel
theorem dX3_chanceToBuy_21 : decode cX3_chanceToBuy 21 = .ok (.goto 4, 3) := by decide +kernel
theorem dX3_chanceToBuy_24 : decode cX3_chanceToBuy 24 = .ok (.iconst 0, 1) := by decide +kernel
theorem dX3_chanceToBuy_25 : decode cX3_chanceToBuy 25 = .ok (.ireturn, 1) := by decide +kernel
theorem dX3_dayPicked_0 : decode cX3_dayPicked 0 = .ok (.bipush (-6), 2) := by decide +kernel
theorem dX3_dayPicked_2 : decode cX3_dayPicked 2 = .ok (.istore 4, 2) := by decide +kernel
theorem dX3_dayPicked_4 : decode cX3_dayPicked 4 = .ok (.iconst (-1), 1) := by decide +kernel
theorem dX3_dayPicked_5 : decode cX3_dayPicked 5 = .ok (.istore 5, 2) := by decide +kernel
theorem dX3_dayPicked_7 : decode cX3_dayPicked 7 = .ok (.iload_n 2, 1) := by decide +kernel
theorem dX3_dayPicked_8 : decode cX3_dayPicked 8 = .ok (.istore 6, 2) := by decide +kernel
theorem dX3_dayPicked_10 : decode cX3_dayPicked 10 = .ok (.iload 6, 2) := by decide +kernel
theorem dX3_dayPicked_12 : decode cX3_dayPicked 12 = .ok (.aload_n 0, 1) := by decide +kernel
theorem dX3_dayPicked_13 : decode cX3_dayPicked 13 = .ok (.getfield 15, 3) := by decide +kernel
theorem dX3_dayPicked_16 : decode cX3_dayPicked 16 = .ok (.if_icmp .ge 55, 3) := by decide +kernel
theorem dX3_dayPicked_19 : decode cX3_dayPicked 19 = .ok (.aload_n 0, 1) := by decide +kernel
theorem dX3_dayPicked_20 : decode cX3_dayPicked 20 = .ok (.iload_n 1, 1) := by decide +kernel
theorem dX3_dayPicked_21 : decode cX3_dayPicked 21 = .ok (.iload 6, 2) := by decide +kernel
theorem dX3_dayPicked_23 : decode cX3_dayPicked 23 = .ok (.invokevirtual 56, 3) := by decide +kernel
theorem dX3_dayPicked_26 : decode cX3_dayPicked 26 = .ok (.aload_n 0, 1) := by decide +kernel
theorem dX3_dayPicked_27 : decode cX3_dayPicked 27 = .ok (.getfield 21, 3) := by decide +kernel
theorem dX3_dayPicked_30 : decode cX3_dayPicked 30 = .ok (.aload_n 3, 1) := by decide +kernel
theorem dX3_dayPicked_31 : decode cX3_dayPicked 31 = .ok (.iload 6, 2) := by decide +kernel
theorem dX3_dayPicked_33 : decode cX3_dayPicked 33 = .ok (.iaload, 1) := by decide +kernel
theorem dX3_dayPicked_34 : decode cX3_dayPicked 34 = .ok (.iaload, 1) := by decide +kernel
theorem dX3_dayPicked_35 : decode cX3_dayPicked 35 = .ok (.isub, 1) := by decide +kernel
theorem dX3_dayPicked_36 : decode cX3_dayPicked 36 = .ok (.aload_n 0, 1) := by decide +kernel
theorem dX3_dayPicked_37 : decode cX3_dayPicked 37 = .ok (.getfield 37, 3) := by decide +kernel
theorem dX3_dayPicked_40 : decode cX3_dayPicked 40 = .ok (.iload_n 1, 1) := by decide +kernel
theorem dX3_dayPicked_41 : decode cX3_dayPicked 41 = .ok (.iaload, 1) := by decide +kernel
theorem dX3_dayPicked_42 : decode cX3_dayPicked 42 = .ok (.iload 6, 2) := by decide +kernel
theorem dX3_dayPicked_44 : decode cX3_dayPicked 44 = .ok (.iload_n 2, 1) := by decide +kernel
theorem dX3_dayPicked_45 : decode cX3_dayPicked 45 = .ok (.isub, 1) := by decide +kernel
theorem dX3_dayPicked_46 : decode cX3_dayPicked 46 = .ok (.imul, 1) := by decide +kernel
theorem dX3_dayPicked_47 : decode cX3_dayPicked 47 = .ok (.isub, 1) := by decide +kernel
theorem dX3_dayPicked_48 : decode cX3_dayPicked 48 = .ok (.istore 7, 2) := by decide +kernel
theorem dX3_dayPicked_50 : decode cX3_dayPicked 50 = .ok (.iload 7, 2) := by decide +kernel
theorem dX3_dayPicked_52 : decode cX3_dayPicked 52 = .ok (.iload 5, 2) := by decide +kernel
theorem dX3_dayPicked_54 : decode cX3_dayPicked 54 = .ok (.if_icmp .le 11, 3) := by decide +kernel
theorem dX3_dayPicked_57 : decode cX3_dayPicked 57 = .ok (.iload 7, 2) := by decide +kernel
theorem dX3_dayPicked_59 : decode cX3_dayPicked 59 = .ok (.istore 5, 2) := by decide +kernel
theorem dX3_dayPicked_61 : decode cX3_dayPicked 61 = .ok (.iload 6, 2) := by decide +kernel
theorem dX3_dayPicked_63 : decode cX3_dayPicked 63 = .ok (.istore 4, 2) := by decide +kernel
theorem dX3_dayPicked_65 : decode cX3_dayPicked 65 = .ok (.iinc 6 1, 3) := by decide +kernel
theorem dX3_dayPicked_68 : decode cX3_dayPicked 68 = .ok (.goto (-58), 3) := by decide +kernel
theorem dX3_dayPicked_71 : decode cX3_dayPicked 71 = .ok (.iload 4, 2) := by decide +kernel
theorem dX3_dayPicked_73 : decode cX3_dayPicked 73 = .ok (.ireturn, 1) := by decide +kernel
theorem dX3_scale_0 : decode cX3_scale 0 = .ok (.lconst 1, 1) := by decide +kernel
theorem dX3_scale_1 : decode cX3_scale 1 = .ok (.iconst 2, 1) := by decide +kernel
theorem dX3_scale_2 : decode cX3_scale 2 = .ok (.aload_n 0, 1) := by decide +kernel
theorem dX3_scale_3 : decode cX3_scale 3 = .ok (.getfield 40, 3) := by decide +kernel
theorem dX3_scale_6 : decode cX3_scale 6 = .ok (.imul, 1) := by decide +kernel
theorem dX3_scale_7 : decode cX3_scale 7 = .ok (.iload_n 1, 1) := by decide +kernel
theorem dX3_scale_8 : decode cX3_scale 8 = .ok (.imul, 1) := by decide +kernel
theorem dX3_scale_9 : decode cX3_scale 9 = .ok (.lshl, 1) := by decide +kernel
theorem dX3_scale_10 : decode cX3_scale 10 = .ok (.lreturn, 1) := by decide +kernel
end
section
theorem dX4_init_0 : decode cX4_init 0 = .ok (.aload_n 0, 1) := by decide +kernel
theorem dX4_init_1 : decode cX4_init 1 = .ok (.invokespecial 3, 3) := by decide +kernel
theorem dX4_init_4 : decode cX4_init 4 = .ok (.aload_n 0, 1) := by decide +kernel
theorem dX4_init_5 : decode cX4_init 5 = .ok (.bipush 7, 2) := by decide +kernel
theorem dX4_init_7 : decode cX4_init 7 = .ok (.bipush 13, 2) := by decide +kernel
theorem dX4_init_9 : decode cX4_init 9 = .ok (.multianewarray 9 2, 4) := by decide +kernel
theorem dX4_init_13 : decode cX4_init 13 = .ok (.putfield 11, 3) := by decide +kernel
theorem dX4_init_16 : decode cX4_init 16 = .ok (.aload_n 0, 1) := by decide +kernel
theorem dX4_init_17 : decode cX4_init 17 = .ok (.bipush 6, 2) := by decide +kernel
theorem dX4_init_19 : decode cX4_init 19 = .ok (.bipush 13, 2) := by decide +kernel
theorem dX4_init_21 : decode cX4_init 21 = .ok (.multianewarray 16 2, 4) := by decide +kernel
theorem dX4_init_25 : decode cX4_init 25 = .ok (.putfield 18, 3) := by decide +kernel
theorem dX4_init_28 : decode cX4_init 28 = .ok (.aload_n 0, 1) := by decide +kernel
theorem dX4_init_29 : decode cX4_init 29 = .ok (.bipush 13, 2) := by decide +kernel
theorem dX4_init_31 : decode cX4_init 31 = .ok (.newarray .long, 2) := by decide +kernel
theorem dX4_init_33 : decode cX4_init 33 = .ok (.putfield 21, 3) := by decide +kernel
theorem dX4_init_36 : decode cX4_init 36 = .ok (.return_, 1) := by decide +kernel
theorem dX4_askByPlan_0 : decode cX4_askByPlan 0 = .ok (.iconst 0, 1) := by decide +kernel
theorem dX4_askByPlan_1 : decode cX4_askByPlan 1 = .ok (.istore_n 2, 1) := by decide +kernel
theorem dX4_askByPlan_2 : decode cX4_askByPlan 2 = .ok (.iload_n 2, 1) := by decide +kernel
theorem dX4_askByPlan_3 : decode cX4_askByPlan 3 = .ok (.bipush 6, 2) := by decide +kernel
theorem dX4_askByPlan_5 : decode cX4_askByPlan 5 = .ok (.if_icmp .ge 34, 3) := by decide +kernel
theorem dX4_askByPlan_8 : decode cX4_askByPlan 8 = .ok (.iconst 0, 1) := by decide +kernel
theorem dX4_askByPlan_9 : decode cX4_askByPlan 9 = .ok (.istore_n 3, 1) := by decide +kernel
theorem dX4_askByPlan_10 : decode cX4_askByPlan 10 = .ok (.iload_n 3, 1) := by decide +kernel
theorem dX4_askByPlan_11 : decode cX4_askByPlan 11 = .ok (.bipush 12, 2) := by decide +kernel
theorem dX4_askByPlan_13 : decode cX4_askByPlan 13 = .ok (.if_icmp .gt 20, 3) := by decide +kernel
theorem dX4_askByPlan_16 : decode cX4_askByPlan 16 = .ok (.aload_n 0, 1) := by decide +kernel
theorem dX4_askByPlan_17 : decode cX4_askByPlan 17 = .ok (.getfield 18, 3) := by decide +kernel
theorem dX4_askByPlan_20 : decode cX4_askByPlan 20 = .ok (.iload_n 2, 1) := by decide +kernel
theorem dX4_askByPlan_21 : decode cX4_askByPlan 21 = .ok (.aaload, 1) := by decide +kernel
theorem dX4_askByPlan_22 : decode cX4_askByPlan 22 = .ok (.iload_n 3, 1) := by decide +kernel
theorem dX4_askByPlan_23 : decode cX4_askByPlan 23 = .ok (.aload_n 1, 1) := by decide +kernel
theorem dX4_askByPlan_24 : decode cX4_askByPlan 24 = .ok (.iload_n 2, 1) := by decide +kernel
theorem dX4_askByPlan_25 : decode cX4_askByPlan 25 = .ok (.iaload, 1) := by decide +kernel
theorem dX4_askByPlan_26 : decode cX4_askByPlan 26 = .ok (.iastore, 1) := by decide +kernel
theorem dX4_askByPlan_27 : decode cX4_askByPlan 27 = .ok (.iinc 3 1, 3) := by decide +kernel
theorem dX4_askByPlan_30 : decode cX4_askByPlan 30 = .ok (.goto (-20), 3) := by decide +kernel
theorem dX4_askByPlan_33 : decode cX4_askByPlan 33 = .ok (.iinc 2 1, 3) := by decide +kernel
theorem dX4_askByPlan_36 : decode cX4_askByPlan 36 = .ok (.goto (-34), 3) := by decide +kernel
theorem dX4_askByPlan_39 : decode cX4_askByPlan 39 = .ok (.return_, 1) := by decide +kernel
theorem dX4_askByRule_0 : decode cX4_askByRule 0 = .ok (.iconst 0, 1) := by decide +kernel
theorem dX4_askByRule_1 : decode cX4_askByRule 1 = .ok (.istore_n 3, 1) := by decide +kernel
theorem dX4_askByRule_2 : decode cX4_askByRule 2 = .ok (.iload_n 3, 1) := by decide +kernel
theorem dX4_askByRule_3 : decode cX4_askByRule 3 = .ok (.bipush 6, 2) := by decide +kernel
theorem dX4_askByRule_5 : decode cX4_askByRule 5 = .ok (.if_icmp .ge 42, 3) := by decide +kernel
theorem dX4_askByRule_8 : decode cX4_askByRule 8 = .ok (.iconst 0, 1) := by decide +kernel
theorem dX4_askByRule_9 : decode cX4_askByRule 9 = .ok (.istore 4, 2) := by decide +kernel
theorem dX4_askByRule_11 : decode cX4_askByRule 11 = .ok (.iload 4, 2) := by decide +kernel
theorem dX4_askByRule_13 : decode cX4_askByRule 13 = .ok (.bipush 12, 2) := by decide +kernel
theorem dX4_askByRule_15 : decode cX4_askByRule 15 = .ok (.if_icmp .gt 26, 3) := by decide +kernel
theorem dX4_askByRule_18 : decode cX4_askByRule 18 = .ok (.aload_n 0, 1) := by decide +kernel
theorem dX4_askByRule_19 : decode cX4_askByRule 19 = .ok (.getfield 18, 3) := by decide +kernel
theorem dX4_askByRule_22 : decode cX4_askByRule 22 = .ok (.iload_n 3, 1) := by decide +kernel
theorem dX4_askByRule_23 : decode cX4_askByRule 23 = .ok (.aaload, 1) := by decide +kernel
theorem dX4_askByRule_24 : decode cX4_askByRule 24 = .ok (.iload 4, 2) := by decide +kernel
theorem dX4_askByRule_26 : decode cX4_askByRule 26 = .ok (.aload_n 1, 1) := by decide +kernel
theorem dX4_askByRule_27 : decode cX4_askByRule 27 = .ok (.iload_n 3, 1) := by decide +kernel
theorem dX4_askByRule_28 : decode cX4_askByRule 28 = .ok (.iload 4, 2) := by decide +kernel
theorem dX4_askByRule_30 : decode cX4_askByRule 30 = .ok (.iload_n 2, 1) := by decide +kernel
theorem dX4_askByRule_31 : decode cX4_askByRule 31 = .ok (.invokevirtual 25, 3) := by decide +kernel
theorem dX4_askByRule_34 : decode cX4_askByRule 34 = .ok (.iastore, 1) := by decide +kernel
theorem dX4_askByRule_35 : decode cX4_askByRule 35 = .ok (.iinc 4 1, 3) := by decide +kernel
theorem dX4_askByRule_38 : decode cX4_askByRule 38 = .ok (.goto (-27), 3) := by decide +kernel
theorem dX4_askByRule_41 : decode cX4_askByRule 41 = .ok (.iinc 3 1, 3) := by decide +kernel
theorem dX4_askByRule_44 : decode cX4_askByRule 44 = .ok (.goto (-42), 3) := by decide +kernel
theorem dX4_askByRule_47 : decode cX4_askByRule 47 = .ok (.return_, 1) := by decide +kernel
theorem dX4_fillAsked_0 : decode cX4_fillAsked 0 = .ok (.aload_n 0, 1) := by decide +kernel
theorem dX4_fillAsked_1 : decode cX4_fillAsked 1 = .ok (.aload_n 1, 1) := by decide +kernel
theorem dX4_fillAsked_2 : decode cX4_fillAsked 2 = .ok (.invokevirtual 31, 3) := by decide +kernel
theorem dX4_fillAsked_5 : decode cX4_fillAsked 5 = .ok (.aload_n 1, 1) := by decide +kernel
theorem dX4_fillAsked_6 : decode cX4_fillAsked 6 = .ok (.getfield 35, 3) := by decide +kernel
theorem dX4_fillAsked_9 : decode cX4_fillAsked 9 = .ok (.iconst 1, 1) := by decide +kernel
theorem dX4_fillAsked_10 : decode cX4_fillAsked 10 = .ok (.isub, 1) := by decide +kernel
theorem dX4_fillAsked_11 : decode cX4_fillAsked 11 = .ok (.istore_n 2, 1) := by decide +kernel
theorem dX4_fillAsked_12 : decode cX4_fillAsked 12 = .ok (.iload_n 2, 1) := by decide +kernel
theorem dX4_fillAsked_13 : decode cX4_fillAsked 13 = .ok (.ifCond .lt 38, 3) := by decide +kernel
theorem dX4_fillAsked_16 : decode cX4_fillAsked 16 = .ok (.iconst 0, 1) := by decide +kernel
theorem dX4_fillAsked_17 : decode cX4_fillAsked 17 = .ok (.istore_n 3, 1) := by decide +kernel
theorem dX4_fillAsked_18 : decode cX4_fillAsked 18 = .ok (.iload_n 3, 1) := by decide +kernel
theorem dX4_fillAsked_19 : decode cX4_fillAsked 19 = .ok (.aload_n 1, 1) := by decide +kernel
theorem dX4_fillAsked_20 : decode cX4_fillAsked 20 = .ok (.getfield 41, 3) := by decide +kernel
theorem dX4_fillAsked_23 : decode cX4_fillAsked 23 = .ok (.if_icmp .ge 22, 3) := by decide +kernel
theorem dX4_fillAsked_26 : decode cX4_fillAsked 26 = .ok (.aload_n 0, 1) := by decide +kernel
theorem dX4_fillAsked_27 : decode cX4_fillAsked 27 = .ok (.aload_n 1, 1) := by decide +kernel
theorem dX4_fillAsked_28 : decode cX4_fillAsked 28 = .ok (.iload_n 2, 1) := by decide +kernel
theorem dX4_fillAsked_29 : decode cX4_fillAsked 29 = .ok (.iload_n 3, 1) := by decide +kernel
theorem dX4_fillAsked_30 : decode cX4_fillAsked 30 = .ok (.invokevirtual 44, 3) := by decide +kernel
theorem dX4_fillAsked_33 : decode cX4_fillAsked 33 = .ok (.aload_n 0, 1) := by decide +kernel
theorem dX4_fillAsked_34 : decode cX4_fillAsked 34 = .ok (.iload_n 2, 1) := by decide +kernel
theorem dX4_fillAsked_35 : decode cX4_fillAsked 35 = .ok (.iload_n 3, 1) := by decide +kernel
theorem dX4_fillAsked_36 : decode cX4_fillAsked 36 = .ok (.invokevirtual 48, 3) := by decide +kernel
theorem dX4_fillAsked_39 : decode cX4_fillAsked 39 = .ok (.iinc 3 1, 3) := by decide +kernel
theorem dX4_fillAsked_42 : decode cX4_fillAsked 42 = .ok (.goto (-24), 3) := by decide +kernel
theorem dX4_fillAsked_45 : decode cX4_fillAsked 45 = .ok (.iinc 2 (-1), 3) := by decide +kernel
theorem dX4_fillAsked_48 : decode cX4_fillAsked 48 = .ok (.goto (-36), 3) := by decide +kernel
theorem dX4_fillAsked_51 : decode cX4_fillAsked 51 = .ok (.return_, 1) := by decide +kernel
theorem dX4_fillBest_0 : decode cX4_fillBest 0 = .ok (.aload_n 0, 1) := by decide +kernel
theorem dX4_fillBest_1 : decode cX4_fillBest 1 = .ok (.aload_n 1, 1) := by decide +kernel
theorem dX4_fillBest_2 : decode cX4_fillBest 2 = .ok (.invokevirtual 31, 3) := by decide +kernel
theorem dX4_fillBest_5 : decode cX4_fillBest 5 = .ok (.aload_n 1, 1) := by decide +kernel
theorem dX4_fillBest_6 : decode cX4_fillBest 6 = .ok (.getfield 35, 3) := by decide +kernel
theorem dX4_fillBest_9 : decode cX4_fillBest 9 = .ok (.iconst 1, 1) := by decide +kernel
theorem dX4_fillBest_10 : decode cX4_fillBest 10 = .ok (.isub, 1) := by decide +kernel
theorem dX4_fillBest_11 : decode cX4_fillBest 11 = .ok (.istore_n 2, 1) := by decide +kernel
theorem dX4_fillBest_12 : decode cX4_fillBest 12 = .ok (.iload_n 2, 1) := by decide +kernel
theorem dX4_fillBest_13 : decode cX4_fillBest 13 = .ok (.ifCond .lt 38, 3) := by decide +kernel
theorem dX4_fillBest_16 : decode cX4_fillBest 16 = .ok (.iconst 0, 1) := by decide +kernel
theorem dX4_fillBest_17 : decode cX4_fillBest 17 = .ok (.istore_n 3, 1) := by decide +kernel
theorem dX4_fillBest_18 : decode cX4_fillBest 18 = .ok (.iload_n 3, 1) := by decide +kernel
theorem dX4_fillBest_19 : decode cX4_fillBest 19 = .ok (.aload_n 1, 1) := by decide +kernel
theorem dX4_fillBest_20 : decode cX4_fillBest 20 = .ok (.getfield 41, 3) := by decide +kernel
theorem dX4_fillBest_23 : decode cX4_fillBest 23 = .ok (.if_icmp .ge 22, 3) := by decide +kernel
theorem dX4_fillBest_26 : decode cX4_fillBest 26 = .ok (.aload_n 0, 1) := by decide +kernel
theorem dX4_fillBest_27 : decode cX4_fillBest 27 = .ok (.aload_n 1, 1) := by decide +kernel
theorem dX4_fillBest_28 : decode cX4_fillBest 28 = .ok (.iload_n 2, 1) := by decide +kernel
theorem dX4_fillBest_29 : decode cX4_fillBest 29 = .ok (.iload_n 3, 1) := by decide +kernel
theorem dX4_fillBest_30 : decode cX4_fillBest 30 = .ok (.invokevirtual 44, 3) := by decide +kernel
theorem dX4_fillBest_33 : decode cX4_fillBest 33 = .ok (.aload_n 0, 1) := by decide +kernel
theorem dX4_fillBest_34 : decode cX4_fillBest 34 = .ok (.iload_n 2, 1) := by decide +kernel
theorem dX4_fillBest_35 : decode cX4_fillBest 35 = .ok (.iload_n 3, 1) := by decide +kernel
theorem dX4_fillBest_36 : decode cX4_fillBest 36 = .ok (.invokevirtual 52, 3) := by decide +kernel
theorem dX4_fillBest_39 : decode cX4_fillBest 39 = .ok (.iinc 3 1, 3) := by decide +kernel
theorem dX4_fillBest_42 : decode cX4_fillBest 42 = .ok (.goto (-24), 3) := by decide +kernel
theorem dX4_fillBest_45 : decode cX4_fillBest 45 = .ok (.iinc 2 (-1), 3) := by decide +kernel
theorem dX4_fillBest_48 : decode cX4_fillBest 48 = .ok (.goto (-36), 3) := by decide +kernel
theorem dX4_fillBest_51 : decode cX4_fillBest 51 = .ok (.return_, 1) := by decide +kernel
theorem dX4_fillEnd_0 : decode cX4_fillEnd 0 = .ok (.iconst 0, 1) := by decide +kernel
theorem dX4_fillEnd_1 : decode cX4_fillEnd 1 = .ok (.istore_n 2, 1) := by decide +kernel
theorem dX4_fillEnd_2 : decode cX4_fillEnd 2 = .ok (.iload_n 2, 1) := by decide +kernel
theorem dX4_fillEnd_3 : decode cX4_fillEnd 3 = .ok (.bipush 12, 2) := by decide +kernel
theorem dX4_fillEnd_5 : decode cX4_fillEnd 5 = .ok (.if_icmp .gt 28, 3) := by decide +kernel
theorem dX4_fillEnd_8 : decode cX4_fillEnd 8 = .ok (.aload_n 0, 1) := by decide +kernel
theorem dX4_fillEnd_9 : decode cX4_fillEnd 9 = .ok (.getfield 11, 3) := by decide +kernel
theorem dX4_fillEnd_12 : decode cX4_fillEnd 12 = .ok (.aload_n 1, 1) := by decide +kernel
theorem dX4_fillEnd_13 : decode cX4_fillEnd 13 = .ok (.getfield 35, 3) := by decide +kernel
theorem dX4_fillEnd_16 : decode cX4_fillEnd 16 = .ok (.aaload, 1) := by decide +kernel
theorem dX4_fillEnd_17 : decode cX4_fillEnd 17 = .ok (.iload_n 2, 1) := by decide +kernel
theorem dX4_fillEnd_18 : decode cX4_fillEnd 18 = .ok (.aload_n 1, 1) := by decide +kernel
theorem dX4_fillEnd_19 : decode cX4_fillEnd 19 = .ok (.getfield 55, 3) := by decide +kernel
theorem dX4_fillEnd_22 : decode cX4_fillEnd 22 = .ok (.i2l, 1) := by decide +kernel
theorem dX4_fillEnd_23 : decode cX4_fillEnd 23 = .ok (.iload_n 2, 1) := by decide +kernel
theorem dX4_fillEnd_24 : decode cX4_fillEnd 24 = .ok (.i2l, 1) := by decide +kernel
theorem dX4_fillEnd_25 : decode cX4_fillEnd 25 = .ok (.lmul, 1) := by decide +kernel
theorem dX4_fillEnd_26 : decode cX4_fillEnd 26 = .ok (.lastore, 1) := by decide +kernel
theorem dX4_fillEnd_27 : decode cX4_fillEnd 27 = .ok (.iinc 2 1, 3) := by decide +kernel
theorem dX4_fillEnd_30 : decode cX4_fillEnd 30 = .ok (.goto (-28), 3) := by decide +kernel
theorem dX4_fillEnd_33 : decode cX4_fillEnd 33 = .ok (.return_, 1) := by decide +kernel
theorem dX4_rowFor_0 : decode cX4_rowFor 0 = .ok (.aload_n 0, 1) := by decide +kernel
theorem dX4_rowFor_1 : decode cX4_rowFor 1 = .ok (.getfield 11, 3) := by decide +kernel
theorem dX4_rowFor_4 : decode cX4_rowFor 4 = .ok (.iload_n 2, 1) := by decide +kernel
theorem dX4_rowFor_5 : decode cX4_rowFor 5 = .ok (.iconst 1, 1) := by decide +kernel
theorem dX4_rowFor_6 : decode cX4_rowFor 6 = .ok (.iadd, 1) := by decide +kernel
theorem dX4_rowFor_7 : decode cX4_rowFor 7 = .ok (.aaload, 1) := by decide +kernel
theorem dX4_rowFor_8 : decode cX4_rowFor 8 = .ok (.iconst 0, 1) := by decide +kernel
theorem dX4_rowFor_9 : decode cX4_rowFor 9 = .ok (.aload_n 0, 1) := by decide +kernel
theorem dX4_rowFor_10 : decode cX4_rowFor 10 = .ok (.getfield 21, 3) := by decide +kernel
theorem dX4_rowFor_13 : decode cX4_rowFor 13 = .ok (.iconst 0, 1) := by decide +kernel
theorem dX4_rowFor_14 : decode cX4_rowFor 14 = .ok (.bipush 13, 2) := by decide +kernel
theorem dX4_rowFor_16 : decode cX4_rowFor 16 = .ok (.invokestatic 58, 3) := by decide +kernel
theorem dX4_rowFor_19 : decode cX4_rowFor 19 = .ok (.aload_n 1, 1) := by decide +kernel
theorem dX4_rowFor_20 : decode cX4_rowFor 20 = .ok (.aload_n 1, 1) := by decide +kernel
theorem dX4_rowFor_21 : decode cX4_rowFor 21 = .ok (.getfield 35, 3) := by decide +kernel
theorem dX4_rowFor_24 : decode cX4_rowFor 24 = .ok (.iconst 1, 1) := by decide +kernel
theorem dX4_rowFor_25 : decode cX4_rowFor 25 = .ok (.isub, 1) := by decide +kernel
theorem dX4_rowFor_26 : decode cX4_rowFor 26 = .ok (.iload_n 2, 1) := by decide +kernel
theorem dX4_rowFor_27 : decode cX4_rowFor 27 = .ok (.isub, 1) := by decide +kernel
theorem dX4_rowFor_28 : decode cX4_rowFor 28 = .ok (.invokevirtual 64, 3) := by decide +kernel
theorem dX4_rowFor_31 : decode cX4_rowFor 31 = .ok (.lstore 4, 2) := by decide +kernel
theorem dX4_rowFor_33 : decode cX4_rowFor 33 = .ok (.aload_n 1, 1) := by decide +kernel
theorem dX4_rowFor_34 : decode cX4_rowFor 34 = .ok (.getfield 68, 3) := by decide +kernel
theorem dX4_rowFor_37 : decode cX4_rowFor 37 = .ok (.iconst 1, 1) := by decide +kernel
theorem dX4_rowFor_38 : decode cX4_rowFor 38 = .ok (.isub, 1) := by decide +kernel
theorem dX4_rowFor_39 : decode cX4_rowFor 39 = .ok (.istore 6, 2) := by decide +kernel
theorem dX4_rowFor_41 : decode cX4_rowFor 41 = .ok (.iload 6, 2) := by decide +kernel
theorem dX4_rowFor_43 : decode cX4_rowFor 43 = .ok (.ifCond .lt 39, 3) := by decide +kernel
theorem dX4_rowFor_46 : decode cX4_rowFor 46 = .ok (.aload_n 0, 1) := by decide +kernel
theorem dX4_rowFor_47 : decode cX4_rowFor 47 = .ok (.aload_n 1, 1) := by decide +kernel
theorem dX4_rowFor_48 : decode cX4_rowFor 48 = .ok (.iload 6, 2) := by decide +kernel
theorem dX4_rowFor_50 : decode cX4_rowFor 50 = .ok (.iload_n 2, 1) := by decide +kernel
theorem dX4_rowFor_51 : decode cX4_rowFor 51 = .ok (.iload_n 3, 1) := by decide +kernel
theorem dX4_rowFor_52 : decode cX4_rowFor 52 = .ok (.invokevirtual 71, 3) := by decide +kernel
theorem dX4_rowFor_55 : decode cX4_rowFor 55 = .ok (.aload_n 1, 1) := by decide +kernel
theorem dX4_rowFor_56 : decode cX4_rowFor 56 = .ok (.getfield 74, 3) := by decide +kernel
theorem dX4_rowFor_59 : decode cX4_rowFor 59 = .ok (.iload_n 3, 1) := by decide +kernel
theorem dX4_rowFor_60 : decode cX4_rowFor 60 = .ok (.iaload, 1) := by decide +kernel
theorem dX4_rowFor_61 : decode cX4_rowFor 61 = .ok (.i2l, 1) := by decide +kernel
theorem dX4_rowFor_62 : decode cX4_rowFor 62 = .ok (.lload 4, 2) := by decide +kernel
theorem dX4_rowFor_64 : decode cX4_rowFor 64 = .ok (.lmul, 1) := by decide +kernel
theorem dX4_rowFor_65 : decode cX4_rowFor 65 = .ok (.invokevirtual 78, 3) := by decide +kernel
theorem dX4_rowFor_68 : decode cX4_rowFor 68 = .ok (.lload 4, 2) := by decide +kernel
theorem dX4_rowFor_70 : decode cX4_rowFor 70 = .ok (.ldc2_w 82, 3) := by decide +kernel
theorem dX4_rowFor_73 : decode cX4_rowFor 73 = .ok (.lmul, 1) := by decide +kernel
theorem dX4_rowFor_74 : decode cX4_rowFor 74 = .ok (.lstore 4, 2) := by decide +kernel
theorem dX4_rowFor_76 : decode cX4_rowFor 76 = .ok (.iinc 6 (-1), 3) := by decide +kernel
theorem dX4_rowFor_79 : decode cX4_rowFor 79 = .ok (.goto (-38), 3) := by decide +kernel
theorem dX4_rowFor_82 : decode cX4_rowFor 82 = .ok (.return_, 1) := by decide +kernel
theorem dX4_backByBuyer_0 : decode cX4_backByBuyer 0 = .ok (.bipush 12, 2) := by decide +kernel
theorem dX4_backByBuyer_2 : decode cX4_backByBuyer 2 = .ok (.istore 4, 2) := by decide +kernel
theorem dX4_backByBuyer_4 : decode cX4_backByBuyer 4 = .ok (.iload 4, 2) := by decide +kernel
theorem dX4_backByBuyer_6 : decode cX4_backByBuyer 6 = .ok (.ifCond .le 43, 3) := by decide +kernel
theorem dX4_backByBuyer_9 : decode cX4_backByBuyer 9 = .ok (.aload_n 0, 1) := by decide +kernel
theorem dX4_backByBuyer_10 : decode cX4_backByBuyer 10 = .ok (.getfield 21, 3) := by decide +kernel
theorem dX4_backByBuyer_13 : decode cX4_backByBuyer 13 = .ok (.iload 4, 2) := by decide +kernel
theorem dX4_backByBuyer_15 : decode cX4_backByBuyer 15 = .ok (.iload_n 1, 1) := by decide +kernel
theorem dX4_backByBuyer_16 : decode cX4_backByBuyer 16 = .ok (.i2l, 1) := by decide +kernel
theorem dX4_backByBuyer_17 : decode cX4_backByBuyer 17 = .ok (.lload_n 2, 1) := by decide +kernel
theorem dX4_backByBuyer_18 : decode cX4_backByBuyer 18 = .ok (.aload_n 0, 1) := by decide +kernel
theorem dX4_backByBuyer_19 : decode cX4_backByBuyer 19 = .ok (.getfield 21, 3) := by decide +kernel
theorem dX4_backByBuyer_22 : decode cX4_backByBuyer 22 = .ok (.iload 4, 2) := by decide +kernel
theorem dX4_backByBuyer_24 : decode cX4_backByBuyer 24 = .ok (.iconst 1, 1) := by decide +kernel
theorem dX4_backByBuyer_25 : decode cX4_backByBuyer 25 = .ok (.isub, 1) := by decide +kernel
theorem dX4_backByBuyer_26 : decode cX4_backByBuyer 26 = .ok (.laload, 1) := by decide +kernel
theorem dX4_backByBuyer_27 : decode cX4_backByBuyer 27 = .ok (.ladd, 1) := by decide +kernel
theorem dX4_backByBuyer_28 : decode cX4_backByBuyer 28 = .ok (.lmul, 1) := by decide +kernel
theorem dX4_backByBuyer_29 : decode cX4_backByBuyer 29 = .ok (.iconst 4, 1) := by decide +kernel
theorem dX4_backByBuyer_30 : decode cX4_backByBuyer 30 = .ok (.iload_n 1, 1) := by decide +kernel
theorem dX4_backByBuyer_31 : decode cX4_backByBuyer 31 = .ok (.isub, 1) := by decide +kernel
theorem dX4_backByBuyer_32 : decode cX4_backByBuyer 32 = .ok (.i2l, 1) := by decide +kernel
theorem dX4_backByBuyer_33 : decode cX4_backByBuyer 33 = .ok (.aload_n 0, 1) := by decide +kernel
theorem dX4_backByBuyer_34 : decode cX4_backByBuyer 34 = .ok (.getfield 21, 3) := by decide +kernel
theorem dX4_backByBuyer_37 : decode cX4_backByBuyer 37 = .ok (.iload 4, 2) := by decide +kernel
theorem dX4_backByBuyer_39 : decode cX4_backByBuyer 39 = .ok (.laload, 1) := by decide +kernel
theorem dX4_backByBuyer_40 : decode cX4_backByBuyer 40 = .ok (.lmul, 1) := by decide +kernel
theorem dX4_backByBuyer_41 : decode cX4_backByBuyer 41 = .ok (.ladd, 1) := by decide +kernel
theorem dX4_backByBuyer_42 : decode cX4_backByBuyer 42 = .ok (.lastore, 1) := by decide +kernel
theorem dX4_backByBuyer_43 : decode cX4_backByBuyer 43 = .ok (.iinc 4 (-1), 3) := by decide +kernel
theorem dX4_backByBuyer_46 : decode cX4_backByBuyer 46 = .ok (.goto (-42), 3) := by decide +kernel
theorem dX4_backByBuyer_49 : decode cX4_backByBuyer 49 = .ok (.return_, 1) := by decide +kernel
theorem dX4_takeAsked_0 : decode cX4_takeAsked 0 = .ok (.iconst 0, 1) := by decide +kernel
theorem dX4_takeAsked_1 : decode cX4_takeAsked 1 = .ok (.istore_n 3, 1) := by decide +kernel
theorem dX4_takeAsked_2 : decode cX4_takeAsked 2 = .ok (.iload_n 3, 1) := by decide +kernel
theorem dX4_takeAsked_3 : decode cX4_takeAsked 3 = .ok (.bipush 12, 2) := by decide +kernel
theorem dX4_takeAsked_5 : decode cX4_takeAsked 5 = .ok (.if_icmp .gt 35, 3) := by decide +kernel
theorem dX4_takeAsked_8 : decode cX4_takeAsked 8 = .ok (.aload_n 0, 1) := by decide +kernel
theorem dX4_takeAsked_9 : decode cX4_takeAsked 9 = .ok (.getfield 18, 3) := by decide +kernel
theorem dX4_takeAsked_12 : decode cX4_takeAsked 12 = .ok (.iload_n 1, 1) := by decide +kernel
theorem dX4_takeAsked_13 : decode cX4_takeAsked 13 = .ok (.aaload, 1) := by decide +kernel
theorem dX4_takeAsked_14 : decode cX4_takeAsked 14 = .ok (.iload_n 3, 1) := by decide +kernel
theorem dX4_takeAsked_15 : decode cX4_takeAsked 15 = .ok (.iaload, 1) := by decide +kernel
theorem dX4_takeAsked_16 : decode cX4_takeAsked 16 = .ok (.iload_n 2, 1) := by decide +kernel
theorem dX4_takeAsked_17 : decode cX4_takeAsked 17 = .ok (.if_icmp .ne 17, 3) := by decide +kernel
theorem dX4_takeAsked_20 : decode cX4_takeAsked 20 = .ok (.aload_n 0, 1) := by decide +kernel
theorem dX4_takeAsked_21 : decode cX4_takeAsked 21 = .ok (.getfield 11, 3) := by decide +kernel
theorem dX4_takeAsked_24 : decode cX4_takeAsked 24 = .ok (.iload_n 1, 1) := by decide +kernel
theorem dX4_takeAsked_25 : decode cX4_takeAsked 25 = .ok (.aaload, 1) := by decide +kernel
theorem dX4_takeAsked_26 : decode cX4_takeAsked 26 = .ok (.iload_n 3, 1) := by decide +kernel
theorem dX4_takeAsked_27 : decode cX4_takeAsked 27 = .ok (.aload_n 0, 1) := by decide +kernel
theorem dX4_takeAsked_28 : decode cX4_takeAsked 28 = .ok (.getfield 21, 3) := by decide +kernel
theorem dX4_takeAsked_31 : decode cX4_takeAsked 31 = .ok (.iload_n 3, 1) := by decide +kernel
theorem dX4_takeAsked_32 : decode cX4_takeAsked 32 = .ok (.laload, 1) := by decide +kernel
theorem dX4_takeAsked_33 : decode cX4_takeAsked 33 = .ok (.lastore, 1) := by decide +kernel
theorem dX4_takeAsked_34 : decode cX4_takeAsked 34 = .ok (.iinc 3 1, 3) := by decide +kernel
theorem dX4_takeAsked_37 : decode cX4_takeAsked 37 = .ok (.goto (-35), 3) := by decide +kernel
theorem dX4_takeAsked_40 : decode cX4_takeAsked 40 = .ok (.return_, 1) := by decide +kernel
theorem dX4_takeGreater_0 : decode cX4_takeGreater 0 = .ok (.iconst 0, 1) := by decide +kernel
theorem dX4_takeGreater_1 : decode cX4_takeGreater 1 = .ok (.istore_n 3, 1) := by decide +kernel
theorem dX4_takeGreater_2 : decode cX4_takeGreater 2 = .ok (.iload_n 3, 1) := by decide +kernel
theorem dX4_takeGreater_3 : decode cX4_takeGreater 3 = .ok (.bipush 12, 2) := by decide +kernel
theorem dX4_takeGreater_5 : decode cX4_takeGreater 5 = .ok (.if_icmp .gt 54, 3) := by decide +kernel
theorem dX4_takeGreater_8 : decode cX4_takeGreater 8 = .ok (.iload_n 2, 1) := by decide +kernel
theorem dX4_takeGreater_9 : decode cX4_takeGreater 9 = .ok (.ifCond .eq 21, 3) := by decide +kernel
theorem dX4_takeGreater_12 : decode cX4_takeGreater 12 = .ok (.aload_n 0, 1) := by decide +kernel
theorem dX4_takeGreater_13 : decode cX4_takeGreater 13 = .ok (.getfield 21, 3) := by decide +kernel
theorem dX4_takeGreater_16 : decode cX4_takeGreater 16 = .ok (.iload_n 3, 1) := by decide +kernel
theorem dX4_takeGreater_17 : decode cX4_takeGreater 17 = .ok (.laload, 1) := by decide +kernel
theorem dX4_takeGreater_18 : decode cX4_takeGreater 18 = .ok (.aload_n 0, 1) := by decide +kernel
theorem dX4_takeGreater_19 : decode cX4_takeGreater 19 = .ok (.getfield 11, 3) := by decide +kernel
theorem dX4_takeGreater_22 : decode cX4_takeGreater 22 = .ok (.iload_n 1, 1) := by decide +kernel
theorem dX4_takeGreater_23 : decode cX4_takeGreater 23 = .ok (.aaload, 1) := by decide +kernel
theorem dX4_takeGreater_24 : decode cX4_takeGreater 24 = .ok (.iload_n 3, 1) := by decide +kernel
theorem dX4_takeGreater_25 : decode cX4_takeGreater 25 = .ok (.laload, 1) := by decide +kernel
theorem dX4_takeGreater_26 : decode cX4_takeGreater 26 = .ok (.lcmp, 1) := by decide +kernel
theorem dX4_takeGreater_27 : decode cX4_takeGreater 27 = .ok (.ifCond .le 26, 3) := by decide +kernel
theorem dX4_takeGreater_30 : decode cX4_takeGreater 30 = .ok (.aload_n 0, 1) := by decide +kernel
theorem dX4_takeGreater_31 : decode cX4_takeGreater 31 = .ok (.getfield 11, 3) := by decide +kernel
theorem dX4_takeGreater_34 : decode cX4_takeGreater 34 = .ok (.iload_n 1, 1) := by decide +kernel
theorem dX4_takeGreater_35 : decode cX4_takeGreater 35 = .ok (.aaload, 1) := by decide +kernel
theorem dX4_takeGreater_36 : decode cX4_takeGreater 36 = .ok (.iload_n 3, 1) := by decide +kernel
theorem dX4_takeGreater_37 : decode cX4_takeGreater 37 = .ok (.aload_n 0, 1) := by decide +kernel
theorem dX4_takeGreater_38 : decode cX4_takeGreater 38 = .ok (.getfield 21, 3) := by decide +kernel
theorem dX4_takeGreater_41 : decode cX4_takeGreater 41 = .ok (.iload_n 3, 1) := by decide +kernel
theorem dX4_takeGreater_42 : decode cX4_takeGreater 42 = .ok (.laload, 1) := by decide +kernel
theorem dX4_takeGreater_43 : decode cX4_takeGreater 43 = .ok (.lastore, 1) := by decide +kernel
theorem dX4_takeGreater_44 : decode cX4_takeGreater 44 = .ok (.aload_n 0, 1) := by decide +kernel
theorem dX4_takeGreater_45 : decode cX4_takeGreater 45 = .ok (.getfield 18, 3) := by decide +kernel
theorem dX4_takeGreater_48 : decode cX4_takeGreater 48 = .ok (.iload_n 1, 1) := by decide +kernel
theorem dX4_takeGreater_49 : decode cX4_takeGreater 49 = .ok (.aaload, 1) := by decide +kernel
theorem dX4_takeGreater_50 : decode cX4_takeGreater 50 = .ok (.iload_n 3, 1) := by decide +kernel
theorem dX4_takeGreater_51 : decode cX4_takeGreater 51 = .ok (.iload_n 2, 1) := by decide +kernel
theorem dX4_takeGreater_52 : decode cX4_takeGreater 52 = .ok (.iastore, 1) := by decide +kernel
theorem dX4_takeGreater_53 : decode cX4_takeGreater 53 = .ok (.iinc 3 1, 3) := by decide +kernel
theorem dX4_takeGreater_56 : decode cX4_takeGreater 56 = .ok (.goto (-54), 3) := by decide +kernel
theorem dX4_takeGreater_59 : decode cX4_takeGreater 59 = .ok (.return_, 1) := by decide +kernel
end
section
theorem dX5_init_0 : decode cX5_init 0 = .ok (.aload_n 0, 1) := by decide +kernel
theorem dX5_init_1 : decode cX5_init 1 = .ok (.invokespecial 3, 3) := by decide +kernel
theorem dX5_init_4 : decode cX5_init 4 = .ok (.aload_n 0, 1) := by decide +kernel
theorem dX5_init_5 : decode cX5_init 5 = .ok (.bipush 40, 2) := by decide +kernel
theorem dX5_init_7 : decode cX5_init 7 = .ok (.newarray .int, 2) := by decide +kernel
theorem dX5_init_9 : decode cX5_init 9 = .ok (.putfield 9, 3) := by decide +kernel
theorem dX5_init_12 : decode cX5_init 12 = .ok (.aload_n 0, 1) := by decide +kernel
theorem dX5_init_13 : decode cX5_init 13 = .ok (.iconst 0, 1) := by decide +kernel
theorem dX5_init_14 : decode cX5_init 14 = .ok (.putfield 15, 3) := by decide +kernel
theorem dX5_init_17 : decode cX5_init 17 = .ok (.return_, 1) := by decide +kernel
theorem dX5_faultPlace_0 : decode cX5_faultPlace 0 = .ok (.iconst 0, 1) := by decide +kernel
theorem dX5_faultPlace_1 : decode cX5_faultPlace 1 = .ok (.istore_n 1, 1) := by decide +kernel
theorem dX5_faultPlace_2 : decode cX5_faultPlace 2 = .ok (.iconst 0, 1) := by decide +kernel
theorem dX5_faultPlace_3 : decode cX5_faultPlace 3 = .ok (.istore_n 2, 1) := by decide +kernel
theorem dX5_faultPlace_4 : decode cX5_faultPlace 4 = .ok (.iload_n 2, 1) := by decide +kernel
theorem dX5_faultPlace_5 : decode cX5_faultPlace 5 = .ok (.aload_n 0, 1) := by decide +kernel
theorem dX5_faultPlace_6 : decode cX5_faultPlace 6 = .ok (.getfield 15, 3) := by decide +kernel
theorem dX5_faultPlace_9 : decode cX5_faultPlace 9 = .ok (.if_icmp .ge 28, 3) := by decide +kernel
theorem dX5_faultPlace_12 : decode cX5_faultPlace 12 = .ok (.iload_n 1, 1) := by decide +kernel
theorem dX5_faultPlace_13 : decode cX5_faultPlace 13 = .ok (.aload_n 0, 1) := by decide +kernel
theorem dX5_faultPlace_14 : decode cX5_faultPlace 14 = .ok (.getfield 9, 3) := by decide +kernel
theorem dX5_faultPlace_17 : decode cX5_faultPlace 17 = .ok (.iload_n 2, 1) := by decide +kernel
theorem dX5_faultPlace_18 : decode cX5_faultPlace 18 = .ok (.iaload, 1) := by decide +kernel
theorem dX5_faultPlace_19 : decode cX5_faultPlace 19 = .ok (.invokestatic 19, 3) := by decide +kernel
theorem dX5_faultPlace_22 : decode cX5_faultPlace 22 = .ok (.istore_n 1, 1) := by decide +kernel
theorem dX5_faultPlace_23 : decode cX5_faultPlace 23 = .ok (.iload_n 1, 1) := by decide +kernel
theorem dX5_faultPlace_24 : decode cX5_faultPlace 24 = .ok (.bipush 8, 2) := by decide +kernel
theorem dX5_faultPlace_26 : decode cX5_faultPlace 26 = .ok (.if_icmp .ne 5, 3) := by decide +kernel
theorem dX5_faultPlace_29 : decode cX5_faultPlace 29 = .ok (.iload_n 2, 1) := by decide +kernel
theorem dX5_faultPlace_30 : decode cX5_faultPlace 30 = .ok (.ireturn, 1) := by decide +kernel
theorem dX5_faultPlace_31 : decode cX5_faultPlace 31 = .ok (.iinc 2 1, 3) := by decide +kernel
theorem dX5_faultPlace_34 : decode cX5_faultPlace 34 = .ok (.goto (-30), 3) := by decide +kernel
theorem dX5_faultPlace_37 : decode cX5_faultPlace 37 = .ok (.iload_n 1, 1) := by decide +kernel
theorem dX5_faultPlace_38 : decode cX5_faultPlace 38 = .ok (.bipush 7, 2) := by decide +kernel
theorem dX5_faultPlace_40 : decode cX5_faultPlace 40 = .ok (.if_icmp .ne 8, 3) := by decide +kernel
theorem dX5_faultPlace_43 : decode cX5_faultPlace 43 = .ok (.bipush (-6), 2) := by decide +kernel
theorem dX5_faultPlace_45 : decode cX5_faultPlace 45 = .ok (.goto 7, 3) := by decide +kernel
theorem dX5_faultPlace_48 : decode cX5_faultPlace 48 = .ok (.aload_n 0, 1) := by decide +kernel
theorem dX5_faultPlace_49 : decode cX5_faultPlace 49 = .ok (.getfield 15, 3) := by decide +kernel
theorem dX5_faultPlace_52 : decode cX5_faultPlace 52 = .ok (.ireturn, 1) := by decide +kernel
theorem dX5_isDigit_0 : decode cX5_isDigit 0 = .ok (.iload_n 0, 1) := by decide +kernel
theorem dX5_isDigit_1 : decode cX5_isDigit 1 = .ok (.bipush 48, 2) := by decide +kernel
theorem dX5_isDigit_3 : decode cX5_isDigit 3 = .ok (.if_icmp .lt 13, 3) := by decide +kernel
theorem dX5_isDigit_6 : decode cX5_isDigit 6 = .ok (.iload_n 0, 1) := by decide +kernel
theorem dX5_isDigit_7 : decode cX5_isDigit 7 = .ok (.bipush 57, 2) := by decide +kernel
theorem dX5_isDigit_9 : decode cX5_isDigit 9 = .ok (.if_icmp .gt 7, 3) := by decide +kernel
theorem dX5_isDigit_12 : decode cX5_isDigit 12 = .ok (.iconst 1, 1) := by decide +kernel
theorem dX5_isDigit_13 : decode cX5_isDigit 13 = .ok (.goto 4, 3) := by decide +kernel
theorem dX5_isDigit_16 : decode cX5_isDigit 16 = .ok (.iconst 0, 1) := by decide +kernel
theorem dX5_isDigit_17 : decode cX5_isDigit 17 = .ok (.ireturn, 1) := by decide +kernel
theorem dX5_isPriceDigit_0 : decode cX5_isPriceDigit 0 = .ok (.iload_n 0, 1) := by decide +kernel
theorem dX5_isPriceDigit_1 : decode cX5_isPriceDigit 1 = .ok (.bipush 48, 2) := by decide +kernel
theorem dX5_isPriceDigit_3 : decode cX5_isPriceDigit 3 = .ok (.if_icmp .lt 13, 3) := by decide +kernel
theorem dX5_isPriceDigit_6 : decode cX5_isPriceDigit 6 = .ok (.iload_n 0, 1) := by decide +kernel
theorem dX5_isPriceDigit_7 : decode cX5_isPriceDigit 7 = .ok (.bipush 53, 2) := by decide +kernel
theorem dX5_isPriceDigit_9 : decode cX5_isPriceDigit 9 = .ok (.if_icmp .ge 7, 3) := by decide +kernel
theorem dX5_isPriceDigit_12 : decode cX5_isPriceDigit 12 = .ok (.iconst 1, 1) := by decide +kernel
theorem dX5_isPriceDigit_13 : decode cX5_isPriceDigit 13 = .ok (.goto 4, 3) := by decide +kernel
theorem dX5_isPriceDigit_16 : decode cX5_isPriceDigit 16 = .ok (.iconst 0, 1) := by decide +kernel
theorem dX5_isPriceDigit_17 : decode cX5_isPriceDigit 17 = .ok (.ireturn, 1) := by decide +kernel
theorem dX5_isFact_0 : decode cX5_isFact 0 = .ok (.iload_n 0, 1) := by decide +kernel
theorem dX5_isFact_1 : decode cX5_isFact 1 = .ok (.bipush 108, 2) := by decide +kernel
theorem dX5_isFact_3 : decode cX5_isFact 3 = .ok (.if_icmp .eq 9, 3) := by decide +kernel
theorem dX5_isFact_6 : decode cX5_isFact 6 = .ok (.iload_n 0, 1) := by decide +kernel
theorem dX5_isFact_7 : decode cX5_isFact 7 = .ok (.bipush 100, 2) := by decide +kernel
theorem dX5_isFact_9 : decode cX5_isFact 9 = .ok (.if_icmp .ne 7, 3) := by decide +kernel
theorem dX5_isFact_12 : decode cX5_isFact 12 = .ok (.iconst 1, 1) := by decide +kernel
theorem dX5_isFact_13 : decode cX5_isFact 13 = .ok (.goto 4, 3) := by decide +kernel
theorem dX5_isFact_16 : decode cX5_isFact 16 = .ok (.iconst 0, 1) := by decide +kernel
theorem dX5_isFact_17 : decode cX5_isFact 17 = .ok (.ireturn, 1) := by decide +kernel
theorem dX5_isCompare_0 : decode cX5_isCompare 0 = .ok (.iload_n 0, 1) := by decide +kernel
theorem dX5_isCompare_1 : decode cX5_isCompare 1 = .ok (.bipush 60, 2) := by decide +kernel
theorem dX5_isCompare_3 : decode cX5_isCompare 3 = .ok (.if_icmp .eq 15, 3) := by decide +kernel
theorem dX5_isCompare_6 : decode cX5_isCompare 6 = .ok (.iload_n 0, 1) := by decide +kernel
theorem dX5_isCompare_7 : decode cX5_isCompare 7 = .ok (.bipush 62, 2) := by decide +kernel
theorem dX5_isCompare_9 : decode cX5_isCompare 9 = .ok (.if_icmp .eq 9, 3) := by decide +kernel
theorem dX5_isCompare_12 : decode cX5_isCompare 12 = .ok (.iload_n 0, 1) := by decide +kernel
theorem dX5_isCompare_13 : decode cX5_isCompare 13 = .ok (.bipush 61, 2) := by decide +kernel
theorem dX5_isCompare_15 : decode cX5_isCompare 15 = .ok (.if_icmp .ne 7, 3) := by decide +kernel
theorem dX5_isCompare_18 : decode cX5_isCompare 18 = .ok (.iconst 1, 1) := by decide +kernel
theorem dX5_isCompare_19 : decode cX5_isCompare 19 = .ok (.goto 4, 3) := by decide +kernel
theorem dX5_isCompare_22 : decode cX5_isCompare 22 = .ok (.iconst 0, 1) := by decide +kernel
theorem dX5_isCompare_23 : decode cX5_isCompare 23 = .ok (.ireturn, 1) := by decide +kernel
theorem dX5_follow_0 : decode cX5_follow 0 = .ok (.iload_n 0, 1) := by decide +kernel
theorem dX5_follow_1 : decode cX5_follow 1 = .ok (.tableswitch 162 0 6 #[43, 69, 83, 97, 121, 134, 149], 43) := by decide +kernel
theorem dX5_follow_44 : decode cX5_follow 44 = .ok (.iload_n 1, 1) := by decide +kernel
theorem dX5_follow_45 : decode cX5_follow 45 = .ok (.invokestatic 23, 3) := by decide +kernel
theorem dX5_follow_48 : decode cX5_follow 48 = .ok (.ifCond .eq 7, 3) := by decide +kernel
theorem dX5_follow_51 : decode cX5_follow 51 = .ok (.iconst 1, 1) := by decide +kernel
theorem dX5_follow_52 : decode cX5_follow 52 = .ok (.goto 17, 3) := by decide +kernel
theorem dX5_follow_55 : decode cX5_follow 55 = .ok (.iload_n 1, 1) := by decide +kernel
theorem dX5_follow_56 : decode cX5_follow 56 = .ok (.invokestatic 27, 3) := by decide +kernel
theorem dX5_follow_59 : decode cX5_follow 59 = .ok (.ifCond .eq 8, 3) := by decide +kernel
theorem dX5_follow_62 : decode cX5_follow 62 = .ok (.bipush 7, 2) := by decide +kernel
theorem dX5_follow_64 : decode cX5_follow 64 = .ok (.goto 5, 3) := by decide +kernel
theorem dX5_follow_67 : decode cX5_follow 67 = .ok (.bipush 8, 2) := by decide +kernel
theorem dX5_follow_69 : decode cX5_follow 69 = .ok (.ireturn, 1) := by decide +kernel
theorem dX5_follow_70 : decode cX5_follow 70 = .ok (.iload_n 1, 1) := by decide +kernel
theorem dX5_follow_71 : decode cX5_follow 71 = .ok (.invokestatic 30, 3) := by decide +kernel
theorem dX5_follow_74 : decode cX5_follow 74 = .ok (.ifCond .eq 7, 3) := by decide +kernel
theorem dX5_follow_77 : decode cX5_follow 77 = .ok (.iconst 2, 1) := by decide +kernel
theorem dX5_follow_78 : decode cX5_follow 78 = .ok (.goto 5, 3) := by decide +kernel
theorem dX5_follow_81 : decode cX5_follow 81 = .ok (.bipush 8, 2) := by decide +kernel
theorem dX5_follow_83 : decode cX5_follow 83 = .ok (.ireturn, 1) := by decide +kernel
theorem dX5_follow_84 : decode cX5_follow 84 = .ok (.iload_n 1, 1) := by decide +kernel
theorem dX5_follow_85 : decode cX5_follow 85 = .ok (.invokestatic 33, 3) := by decide +kernel
theorem dX5_follow_88 : decode cX5_follow 88 = .ok (.ifCond .eq 7, 3) := by decide +kernel
theorem dX5_follow_91 : decode cX5_follow 91 = .ok (.iconst 3, 1) := by decide +kernel
theorem dX5_follow_92 : decode cX5_follow 92 = .ok (.goto 5, 3) := by decide +kernel
theorem dX5_follow_95 : decode cX5_follow 95 = .ok (.bipush 8, 2) := by decide +kernel
theorem dX5_follow_97 : decode cX5_follow 97 = .ok (.ireturn, 1) := by decide +kernel
theorem dX5_follow_98 : decode cX5_follow 98 = .ok (.iload_n 1, 1) := by decide +kernel
theorem dX5_follow_99 : decode cX5_follow 99 = .ok (.invokestatic 33, 3) := by decide +kernel
theorem dX5_follow_102 : decode cX5_follow 102 = .ok (.ifCond .eq 7, 3) := by decide +kernel
theorem dX5_follow_105 : decode cX5_follow 105 = .ok (.iconst 4, 1) := by decide +kernel
theorem dX5_follow_106 : decode cX5_follow 106 = .ok (.goto 15, 3) := by decide +kernel
theorem dX5_follow_109 : decode cX5_follow 109 = .ok (.iload_n 1, 1) := by decide +kernel
theorem dX5_follow_110 : decode cX5_follow 110 = .ok (.bipush 58, 2) := by decide +kernel
theorem dX5_follow_112 : decode cX5_follow 112 = .ok (.if_icmp .ne 7, 3) := by decide +kernel
theorem dX5_follow_115 : decode cX5_follow 115 = .ok (.iconst 5, 1) := by decide +kernel
theorem dX5_follow_116 : decode cX5_follow 116 = .ok (.goto 5, 3) := by decide +kernel
theorem dX5_follow_119 : decode cX5_follow 119 = .ok (.bipush 8, 2) := by decide +kernel
theorem dX5_follow_121 : decode cX5_follow 121 = .ok (.ireturn, 1) := by decide +kernel
theorem dX5_follow_122 : decode cX5_follow 122 = .ok (.iload_n 1, 1) := by decide +kernel
theorem dX5_follow_123 : decode cX5_follow 123 = .ok (.bipush 58, 2) := by decide +kernel
theorem dX5_follow_125 : decode cX5_follow 125 = .ok (.if_icmp .ne 7, 3) := by decide +kernel
theorem dX5_follow_128 : decode cX5_follow 128 = .ok (.iconst 5, 1) := by decide +kernel
theorem dX5_follow_129 : decode cX5_follow 129 = .ok (.goto 5, 3) := by decide +kernel
theorem dX5_follow_132 : decode cX5_follow 132 = .ok (.bipush 8, 2) := by decide +kernel
theorem dX5_follow_134 : decode cX5_follow 134 = .ok (.ireturn, 1) := by decide +kernel
theorem dX5_follow_135 : decode cX5_follow 135 = .ok (.iload_n 1, 1) := by decide +kernel
theorem dX5_follow_136 : decode cX5_follow 136 = .ok (.invokestatic 27, 3) := by decide +kernel
theorem dX5_follow_139 : decode cX5_follow 139 = .ok (.ifCond .eq 8, 3) := by decide +kernel
theorem dX5_follow_142 : decode cX5_follow 142 = .ok (.bipush 6, 2) := by decide +kernel
theorem dX5_follow_144 : decode cX5_follow 144 = .ok (.goto 5, 3) := by decide +kernel
theorem dX5_follow_147 : decode cX5_follow 147 = .ok (.bipush 8, 2) := by decide +kernel
theorem dX5_follow_149 : decode cX5_follow 149 = .ok (.ireturn, 1) := by decide +kernel
theorem dX5_follow_150 : decode cX5_follow 150 = .ok (.iload_n 1, 1) := by decide +kernel
theorem dX5_follow_151 : decode cX5_follow 151 = .ok (.bipush 59, 2) := by decide +kernel
theorem dX5_follow_153 : decode cX5_follow 153 = .ok (.if_icmp .ne 7, 3) := by decide +kernel
theorem dX5_follow_156 : decode cX5_follow 156 = .ok (.iconst 0, 1) := by decide +kernel
theorem dX5_follow_157 : decode cX5_follow 157 = .ok (.goto 5, 3) := by decide +kernel
theorem dX5_follow_160 : decode cX5_follow 160 = .ok (.bipush 8, 2) := by decide +kernel
theorem dX5_follow_162 : decode cX5_follow 162 = .ok (.ireturn, 1) := by decide +kernel
theorem dX5_follow_163 : decode cX5_follow 163 = .ok (.bipush 8, 2) := by decide +kernel
theorem dX5_follow_165 : decode cX5_follow 165 = .ok (.ireturn, 1) := by decide +kernel
end
section
theorem dX6_init_0 : decode cX6_init 0 = .ok (.aload_n 0, 1) := by decide +kernel
theorem dX6_init_1 : decode cX6_init 1 = .ok (.invokespecial 3, 3) := by decide +kernel
theorem dX6_init_4 : decode cX6_init 4 = .ok (.aload_n 0, 1) := by decide +kernel
theorem dX6_init_5 : decode cX6_init 5 = .ok (.bipush 7, 2) := by decide +kernel
theorem dX6_init_7 : decode cX6_init 7 = .ok (.bipush 13, 2) := by decide +kernel
theorem dX6_init_9 : decode cX6_init 9 = .ok (.multianewarray 9 2, 4) := by decide +kernel
theorem dX6_init_13 : decode cX6_init 13 = .ok (.putfield 11, 3) := by decide +kernel
theorem dX6_init_16 : decode cX6_init 16 = .ok (.aload_n 0, 1) := by decide +kernel
theorem dX6_init_17 : decode cX6_init 17 = .ok (.bipush 7, 2) := by decide +kernel
theorem dX6_init_19 : decode cX6_init 19 = .ok (.newarray .long, 2) := by decide +kernel
theorem dX6_init_21 : decode cX6_init 21 = .ok (.putfield 16, 3) := by decide +kernel
theorem dX6_init_24 : decode cX6_init 24 = .ok (.aload_n 0, 1) := by decide +kernel
theorem dX6_init_25 : decode cX6_init 25 = .ok (.bipush 6, 2) := by decide +kernel
theorem dX6_init_27 : decode cX6_init 27 = .ok (.iconst 3, 1) := by decide +kernel
theorem dX6_init_28 : decode cX6_init 28 = .ok (.multianewarray 20 2, 4) := by decide +kernel
theorem dX6_init_32 : decode cX6_init 32 = .ok (.putfield 22, 3) := by decide +kernel
theorem dX6_init_35 : decode cX6_init 35 = .ok (.return_, 1) := by decide +kernel
theorem dX6_goByPlan_0 : decode cX6_goByPlan 0 = .ok (.iload_n 3, 1) := by decide +kernel
theorem dX6_goByPlan_1 : decode cX6_goByPlan 1 = .ok (.ifCond .ne 8, 3) := by decide +kernel
theorem dX6_goByPlan_4 : decode cX6_goByPlan 4 = .ok (.aload_n 0, 1) := by decide +kernel
theorem dX6_goByPlan_5 : decode cX6_goByPlan 5 = .ok (.aload_n 1, 1) := by decide +kernel
theorem dX6_goByPlan_6 : decode cX6_goByPlan 6 = .ok (.invokevirtual 25, 3) := by decide +kernel
theorem dX6_goByPlan_9 : decode cX6_goByPlan 9 = .ok (.iload_n 3, 1) := by decide +kernel
theorem dX6_goByPlan_10 : decode cX6_goByPlan 10 = .ok (.istore 4, 2) := by decide +kernel
theorem dX6_goByPlan_12 : decode cX6_goByPlan 12 = .ok (.iload 4, 2) := by decide +kernel
theorem dX6_goByPlan_14 : decode cX6_goByPlan 14 = .ok (.aload_n 1, 1) := by decide +kernel
theorem dX6_goByPlan_15 : decode cX6_goByPlan 15 = .ok (.getfield 29, 3) := by decide +kernel
theorem dX6_goByPlan_18 : decode cX6_goByPlan 18 = .ok (.if_icmp .ge 60, 3) := by decide +kernel
theorem dX6_goByPlan_21 : decode cX6_goByPlan 21 = .ok (.aload_n 0, 1) := by decide +kernel
theorem dX6_goByPlan_22 : decode cX6_goByPlan 22 = .ok (.iload 4, 2) := by decide +kernel
theorem dX6_goByPlan_24 : decode cX6_goByPlan 24 = .ok (.invokevirtual 35, 3) := by decide +kernel
theorem dX6_goByPlan_27 : decode cX6_goByPlan 27 = .ok (.iconst 0, 1) := by decide +kernel
theorem dX6_goByPlan_28 : decode cX6_goByPlan 28 = .ok (.istore 5, 2) := by decide +kernel
theorem dX6_goByPlan_30 : decode cX6_goByPlan 30 = .ok (.iload 5, 2) := by decide +kernel
theorem dX6_goByPlan_32 : decode cX6_goByPlan 32 = .ok (.aload_n 1, 1) := by decide +kernel
theorem dX6_goByPlan_33 : decode cX6_goByPlan 33 = .ok (.getfield 39, 3) := by decide +kernel
theorem dX6_goByPlan_36 : decode cX6_goByPlan 36 = .ok (.if_icmp .ge 36, 3) := by decide +kernel
theorem dX6_goByPlan_39 : decode cX6_goByPlan 39 = .ok (.aload_n 0, 1) := by decide +kernel
theorem dX6_goByPlan_40 : decode cX6_goByPlan 40 = .ok (.iload 4, 2) := by decide +kernel
theorem dX6_goByPlan_42 : decode cX6_goByPlan 42 = .ok (.aload_n 1, 1) := by decide +kernel
theorem dX6_goByPlan_43 : decode cX6_goByPlan 43 = .ok (.iload 5, 2) := by decide +kernel
theorem dX6_goByPlan_45 : decode cX6_goByPlan 45 = .ok (.iload 4, 2) := by decide +kernel
theorem dX6_goByPlan_47 : decode cX6_goByPlan 47 = .ok (.aload_n 2, 1) := by decide +kernel
theorem dX6_goByPlan_48 : decode cX6_goByPlan 48 = .ok (.iload 4, 2) := by decide +kernel
theorem dX6_goByPlan_50 : decode cX6_goByPlan 50 = .ok (.iaload, 1) := by decide +kernel
theorem dX6_goByPlan_51 : decode cX6_goByPlan 51 = .ok (.invokevirtual 42, 3) := by decide +kernel
theorem dX6_goByPlan_54 : decode cX6_goByPlan 54 = .ok (.aload_n 1, 1) := by decide +kernel
theorem dX6_goByPlan_55 : decode cX6_goByPlan 55 = .ok (.getfield 46, 3) := by decide +kernel
theorem dX6_goByPlan_58 : decode cX6_goByPlan 58 = .ok (.aload_n 2, 1) := by decide +kernel
theorem dX6_goByPlan_59 : decode cX6_goByPlan 59 = .ok (.iload 4, 2) := by decide +kernel
theorem dX6_goByPlan_61 : decode cX6_goByPlan 61 = .ok (.iaload, 1) := by decide +kernel
theorem dX6_goByPlan_62 : decode cX6_goByPlan 62 = .ok (.iaload, 1) := by decide +kernel
theorem dX6_goByPlan_63 : decode cX6_goByPlan 63 = .ok (.invokevirtual 50, 3) := by decide +kernel
theorem dX6_goByPlan_66 : decode cX6_goByPlan 66 = .ok (.iinc 5 1, 3) := by decide +kernel
theorem dX6_goByPlan_69 : decode cX6_goByPlan 69 = .ok (.goto (-39), 3) := by decide +kernel
theorem dX6_goByPlan_72 : decode cX6_goByPlan 72 = .ok (.iinc 4 1, 3) := by decide +kernel
theorem dX6_goByPlan_75 : decode cX6_goByPlan 75 = .ok (.goto (-63), 3) := by decide +kernel
theorem dX6_goByPlan_78 : decode cX6_goByPlan 78 = .ok (.return_, 1) := by decide +kernel
theorem dX6_goWaiting_0 : decode cX6_goWaiting 0 = .ok (.aload_n 0, 1) := by decide +kernel
theorem dX6_goWaiting_1 : decode cX6_goWaiting 1 = .ok (.aload_n 1, 1) := by decide +kernel
theorem dX6_goWaiting_2 : decode cX6_goWaiting 2 = .ok (.invokevirtual 25, 3) := by decide +kernel
theorem dX6_goWaiting_5 : decode cX6_goWaiting 5 = .ok (.aload_n 0, 1) := by decide +kernel
theorem dX6_goWaiting_6 : decode cX6_goWaiting 6 = .ok (.aload_n 1, 1) := by decide +kernel
theorem dX6_goWaiting_7 : decode cX6_goWaiting 7 = .ok (.aload_n 2, 1) := by decide +kernel
theorem dX6_goWaiting_8 : decode cX6_goWaiting 8 = .ok (.invokevirtual 54, 3) := by decide +kernel
theorem dX6_goWaiting_11 : decode cX6_goWaiting 11 = .ok (.iconst 0, 1) := by decide +kernel
theorem dX6_goWaiting_12 : decode cX6_goWaiting 12 = .ok (.istore_n 3, 1) := by decide +kernel
theorem dX6_goWaiting_13 : decode cX6_goWaiting 13 = .ok (.iload_n 3, 1) := by decide +kernel
theorem dX6_goWaiting_14 : decode cX6_goWaiting 14 = .ok (.aload_n 1, 1) := by decide +kernel
theorem dX6_goWaiting_15 : decode cX6_goWaiting 15 = .ok (.getfield 29, 3) := by decide +kernel
theorem dX6_goWaiting_18 : decode cX6_goWaiting 18 = .ok (.if_icmp .ge 40, 3) := by decide +kernel
theorem dX6_goWaiting_21 : decode cX6_goWaiting 21 = .ok (.aload_n 0, 1) := by decide +kernel
theorem dX6_goWaiting_22 : decode cX6_goWaiting 22 = .ok (.iload_n 3, 1) := by decide +kernel
theorem dX6_goWaiting_23 : decode cX6_goWaiting 23 = .ok (.invokevirtual 35, 3) := by decide +kernel
theorem dX6_goWaiting_26 : decode cX6_goWaiting 26 = .ok (.iconst 0, 1) := by decide +kernel
theorem dX6_goWaiting_27 : decode cX6_goWaiting 27 = .ok (.istore 4, 2) := by decide +kernel
theorem dX6_goWaiting_29 : decode cX6_goWaiting 29 = .ok (.iload 4, 2) := by decide +kernel
theorem dX6_goWaiting_31 : decode cX6_goWaiting 31 = .ok (.iload_n 3, 1) := by decide +kernel
theorem dX6_goWaiting_32 : decode cX6_goWaiting 32 = .ok (.if_icmp .gt 20, 3) := by decide +kernel
theorem dX6_goWaiting_35 : decode cX6_goWaiting 35 = .ok (.aload_n 0, 1) := by decide +kernel
theorem dX6_goWaiting_36 : decode cX6_goWaiting 36 = .ok (.iload 4, 2) := by decide +kernel
theorem dX6_goWaiting_38 : decode cX6_goWaiting 38 = .ok (.aload_n 1, 1) := by decide +kernel
theorem dX6_goWaiting_39 : decode cX6_goWaiting 39 = .ok (.iload_n 3, 1) := by decide +kernel
theorem dX6_goWaiting_40 : decode cX6_goWaiting 40 = .ok (.aload_n 2, 1) := by decide +kernel
theorem dX6_goWaiting_41 : decode cX6_goWaiting 41 = .ok (.iload_n 3, 1) := by decide +kernel
theorem dX6_goWaiting_42 : decode cX6_goWaiting 42 = .ok (.iaload, 1) := by decide +kernel
theorem dX6_goWaiting_43 : decode cX6_goWaiting 43 = .ok (.invokevirtual 58, 3) := by decide +kernel
theorem dX6_goWaiting_46 : decode cX6_goWaiting 46 = .ok (.iinc 4 1, 3) := by decide +kernel
theorem dX6_goWaiting_49 : decode cX6_goWaiting 49 = .ok (.goto (-20), 3) := by decide +kernel
theorem dX6_goWaiting_52 : decode cX6_goWaiting 52 = .ok (.iinc 3 1, 3) := by decide +kernel
theorem dX6_goWaiting_55 : decode cX6_goWaiting 55 = .ok (.goto (-42), 3) := by decide +kernel
theorem dX6_goWaiting_58 : decode cX6_goWaiting 58 = .ok (.return_, 1) := by decide +kernel
theorem dX6_mean_0 : decode cX6_mean 0 = .ok (.aload_n 0, 1) := by decide +kernel
theorem dX6_mean_1 : decode cX6_mean 1 = .ok (.getfield 16, 3) := by decide +kernel
theorem dX6_mean_4 : decode cX6_mean 4 = .ok (.aload_n 1, 1) := by decide +kernel
theorem dX6_mean_5 : decode cX6_mean 5 = .ok (.getfield 29, 3) := by decide +kernel
theorem dX6_mean_8 : decode cX6_mean 8 = .ok (.laload, 1) := by decide +kernel
theorem dX6_mean_9 : decode cX6_mean 9 = .ok (.lstore_n 2, 1) := by decide +kernel
theorem dX6_mean_10 : decode cX6_mean 10 = .ok (.iconst 1, 1) := by decide +kernel
theorem dX6_mean_11 : decode cX6_mean 11 = .ok (.istore 4, 2) := by decide +kernel
theorem dX6_mean_13 : decode cX6_mean 13 = .ok (.iload 4, 2) := by decide +kernel
theorem dX6_mean_15 : decode cX6_mean 15 = .ok (.aload_n 1, 1) := by decide +kernel
theorem dX6_mean_16 : decode cX6_mean 16 = .ok (.getfield 62, 3) := by decide +kernel
theorem dX6_mean_19 : decode cX6_mean 19 = .ok (.if_icmp .gt 34, 3) := by decide +kernel
theorem dX6_mean_22 : decode cX6_mean 22 = .ok (.lload_n 2, 1) := by decide +kernel
theorem dX6_mean_23 : decode cX6_mean 23 = .ok (.aload_n 0, 1) := by decide +kernel
theorem dX6_mean_24 : decode cX6_mean 24 = .ok (.getfield 11, 3) := by decide +kernel
theorem dX6_mean_27 : decode cX6_mean 27 = .ok (.aload_n 1, 1) := by decide +kernel
theorem dX6_mean_28 : decode cX6_mean 28 = .ok (.getfield 29, 3) := by decide +kernel
theorem dX6_mean_31 : decode cX6_mean 31 = .ok (.aaload, 1) := by decide +kernel
theorem dX6_mean_32 : decode cX6_mean 32 = .ok (.iload 4, 2) := by decide +kernel
theorem dX6_mean_34 : decode cX6_mean 34 = .ok (.laload, 1) := by decide +kernel
theorem dX6_mean_35 : decode cX6_mean 35 = .ok (.iload 4, 2) := by decide +kernel
theorem dX6_mean_37 : decode cX6_mean 37 = .ok (.i2l, 1) := by decide +kernel
theorem dX6_mean_38 : decode cX6_mean 38 = .ok (.lmul, 1) := by decide +kernel
theorem dX6_mean_39 : decode cX6_mean 39 = .ok (.aload_n 1, 1) := by decide +kernel
theorem dX6_mean_40 : decode cX6_mean 40 = .ok (.getfield 65, 3) := by decide +kernel
theorem dX6_mean_43 : decode cX6_mean 43 = .ok (.i2l, 1) := by decide +kernel
theorem dX6_mean_44 : decode cX6_mean 44 = .ok (.lmul, 1) := by decide +kernel
theorem dX6_mean_45 : decode cX6_mean 45 = .ok (.ladd, 1) := by decide +kernel
theorem dX6_mean_46 : decode cX6_mean 46 = .ok (.lstore_n 2, 1) := by decide +kernel
theorem dX6_mean_47 : decode cX6_mean 47 = .ok (.iinc 4 1, 3) := by decide +kernel
theorem dX6_mean_50 : decode cX6_mean 50 = .ok (.goto (-37), 3) := by decide +kernel
theorem dX6_mean_53 : decode cX6_mean 53 = .ok (.lload_n 2, 1) := by decide +kernel
theorem dX6_mean_54 : decode cX6_mean 54 = .ok (.lreturn, 1) := by decide +kernel
theorem dX6_begin_0 : decode cX6_begin 0 = .ok (.iconst 0, 1) := by decide +kernel
theorem dX6_begin_1 : decode cX6_begin 1 = .ok (.istore_n 2, 1) := by decide +kernel
theorem dX6_begin_2 : decode cX6_begin 2 = .ok (.iload_n 2, 1) := by decide +kernel
theorem dX6_begin_3 : decode cX6_begin 3 = .ok (.bipush 12, 2) := by decide +kernel
theorem dX6_begin_5 : decode cX6_begin 5 = .ok (.if_icmp .gt 30, 3) := by decide +kernel
theorem dX6_begin_8 : decode cX6_begin 8 = .ok (.aload_n 0, 1) := by decide +kernel
theorem dX6_begin_9 : decode cX6_begin 9 = .ok (.getfield 11, 3) := by decide +kernel
theorem dX6_begin_12 : decode cX6_begin 12 = .ok (.iconst 0, 1) := by decide +kernel
theorem dX6_begin_13 : decode cX6_begin 13 = .ok (.aaload, 1) := by decide +kernel
theorem dX6_begin_14 : decode cX6_begin 14 = .ok (.iload_n 2, 1) := by decide +kernel
theorem dX6_begin_15 : decode cX6_begin 15 = .ok (.iload_n 2, 1) := by decide +kernel
theorem dX6_begin_16 : decode cX6_begin 16 = .ok (.aload_n 1, 1) := by decide +kernel
theorem dX6_begin_17 : decode cX6_begin 17 = .ok (.getfield 62, 3) := by decide +kernel
theorem dX6_begin_20 : decode cX6_begin 20 = .ok (.if_icmp .ne 7, 3) := by decide +kernel
theorem dX6_begin_23 : decode cX6_begin 23 = .ok (.lconst 1, 1) := by decide +kernel
theorem dX6_begin_24 : decode cX6_begin 24 = .ok (.goto 4, 3) := by decide +kernel
theorem dX6_begin_27 : decode cX6_begin 27 = .ok (.lconst 0, 1) := by decide +kernel
theorem dX6_begin_28 : decode cX6_begin 28 = .ok (.lastore, 1) := by decide +kernel
theorem dX6_begin_29 : decode cX6_begin 29 = .ok (.iinc 2 1, 3) := by decide +kernel
theorem dX6_begin_32 : decode cX6_begin 32 = .ok (.goto (-30), 3) := by decide +kernel
theorem dX6_begin_35 : decode cX6_begin 35 = .ok (.aload_n 0, 1) := by decide +kernel
theorem dX6_begin_36 : decode cX6_begin 36 = .ok (.getfield 16, 3) := by decide +kernel
theorem dX6_begin_39 : decode cX6_begin 39 = .ok (.iconst 0, 1) := by decide +kernel
theorem dX6_begin_40 : decode cX6_begin 40 = .ok (.lconst 0, 1) := by decide +kernel
theorem dX6_begin_41 : decode cX6_begin 41 = .ok (.lastore, 1) := by decide +kernel
theorem dX6_begin_42 : decode cX6_begin 42 = .ok (.return_, 1) := by decide +kernel
theorem dX6_openDay_0 : decode cX6_openDay 0 = .ok (.aload_n 0, 1) := by decide +kernel
theorem dX6_openDay_1 : decode cX6_openDay 1 = .ok (.getfield 11, 3) := by decide +kernel
theorem dX6_openDay_4 : decode cX6_openDay 4 = .ok (.iload_n 1, 1) := by decide +kernel
theorem dX6_openDay_5 : decode cX6_openDay 5 = .ok (.aaload, 1) := by decide +kernel
theorem dX6_openDay_6 : decode cX6_openDay 6 = .ok (.iconst 0, 1) := by decide +kernel
theorem dX6_openDay_7 : decode cX6_openDay 7 = .ok (.aload_n 0, 1) := by decide +kernel
theorem dX6_openDay_8 : decode cX6_openDay 8 = .ok (.getfield 11, 3) := by decide +kernel
theorem dX6_openDay_11 : decode cX6_openDay 11 = .ok (.iload_n 1, 1) := by decide +kernel
theorem dX6_openDay_12 : decode cX6_openDay 12 = .ok (.iconst 1, 1) := by decide +kernel
theorem dX6_openDay_13 : decode cX6_openDay 13 = .ok (.iadd, 1) := by decide +kernel
theorem dX6_openDay_14 : decode cX6_openDay 14 = .ok (.aaload, 1) := by decide +kernel
theorem dX6_openDay_15 : decode cX6_openDay 15 = .ok (.iconst 0, 1) := by decide +kernel
theorem dX6_openDay_16 : decode cX6_openDay 16 = .ok (.bipush 13, 2) := by decide +kernel
theorem dX6_openDay_18 : decode cX6_openDay 18 = .ok (.invokestatic 68, 3) := by decide +kernel
theorem dX6_openDay_21 : decode cX6_openDay 21 = .ok (.aload_n 0, 1) := by decide +kernel
theorem dX6_openDay_22 : decode cX6_openDay 22 = .ok (.getfield 16, 3) := by decide +kernel
theorem dX6_openDay_25 : decode cX6_openDay 25 = .ok (.iload_n 1, 1) := by decide +kernel
theorem dX6_openDay_26 : decode cX6_openDay 26 = .ok (.iconst 1, 1) := by decide +kernel
theorem dX6_openDay_27 : decode cX6_openDay 27 = .ok (.iadd, 1) := by decide +kernel
theorem dX6_openDay_28 : decode cX6_openDay 28 = .ok (.aload_n 0, 1) := by decide +kernel
theorem dX6_openDay_29 : decode cX6_openDay 29 = .ok (.getfield 16, 3) := by decide +kernel
theorem dX6_openDay_32 : decode cX6_openDay 32 = .ok (.iload_n 1, 1) := by decide +kernel
theorem dX6_openDay_33 : decode cX6_openDay 33 = .ok (.laload, 1) := by decide +kernel
theorem dX6_openDay_34 : decode cX6_openDay 34 = .ok (.lastore, 1) := by decide +kernel
theorem dX6_openDay_35 : decode cX6_openDay 35 = .ok (.return_, 1) := by decide +kernel
theorem dX6_pickAll_0 : decode cX6_pickAll 0 = .ok (.iconst 0, 1) := by decide +kernel
theorem dX6_pickAll_1 : decode cX6_pickAll 1 = .ok (.istore_n 3, 1) := by decide +kernel
theorem dX6_pickAll_2 : decode cX6_pickAll 2 = .ok (.iload_n 3, 1) := by decide +kernel
theorem dX6_pickAll_3 : decode cX6_pickAll 3 = .ok (.aload_n 1, 1) := by decide +kernel
theorem dX6_pickAll_4 : decode cX6_pickAll 4 = .ok (.getfield 29, 3) := by decide +kernel
theorem dX6_pickAll_7 : decode cX6_pickAll 7 = .ok (.if_icmp .ge 57, 3) := by decide +kernel
theorem dX6_pickAll_10 : decode cX6_pickAll 10 = .ok (.iconst 0, 1) := by decide +kernel
theorem dX6_pickAll_11 : decode cX6_pickAll 11 = .ok (.istore 4, 2) := by decide +kernel
theorem dX6_pickAll_13 : decode cX6_pickAll 13 = .ok (.iload 4, 2) := by decide +kernel
theorem dX6_pickAll_15 : decode cX6_pickAll 15 = .ok (.aload_n 1, 1) := by decide +kernel
theorem dX6_pickAll_16 : decode cX6_pickAll 16 = .ok (.getfield 39, 3) := by decide +kernel
theorem dX6_pickAll_19 : decode cX6_pickAll 19 = .ok (.if_icmp .ge 39, 3) := by decide +kernel
theorem dX6_pickAll_22 : decode cX6_pickAll 22 = .ok (.aload_n 0, 1) := by decide +kernel
theorem dX6_pickAll_23 : decode cX6_pickAll 23 = .ok (.getfield 22, 3) := by decide +kernel
theorem dX6_pickAll_26 : decode cX6_pickAll 26 = .ok (.iload_n 3, 1) := by decide +kernel
theorem dX6_pickAll_27 : decode cX6_pickAll 27 = .ok (.aaload, 1) := by decide +kernel
theorem dX6_pickAll_28 : decode cX6_pickAll 28 = .ok (.iload 4, 2) := by decide +kernel
theorem dX6_pickAll_30 : decode cX6_pickAll 30 = .ok (.aload_n 1, 1) := by decide +kernel
theorem dX6_pickAll_31 : decode cX6_pickAll 31 = .ok (.iload 4, 2) := by decide +kernel
theorem dX6_pickAll_33 : decode cX6_pickAll 33 = .ok (.invokevirtual 74, 3) := by decide +kernel
theorem dX6_pickAll_36 : decode cX6_pickAll 36 = .ok (.ifCond .eq 14, 3) := by decide +kernel
theorem dX6_pickAll_39 : decode cX6_pickAll 39 = .ok (.aload_n 1, 1) := by decide +kernel
theorem dX6_pickAll_40 : decode cX6_pickAll 40 = .ok (.iload 4, 2) := by decide +kernel
theorem dX6_pickAll_42 : decode cX6_pickAll 42 = .ok (.iload_n 3, 1) := by decide +kernel
theorem dX6_pickAll_43 : decode cX6_pickAll 43 = .ok (.aload_n 2, 1) := by decide +kernel
theorem dX6_pickAll_44 : decode cX6_pickAll 44 = .ok (.invokevirtual 78, 3) := by decide +kernel
theorem dX6_pickAll_47 : decode cX6_pickAll 47 = .ok (.goto 4, 3) := by decide +kernel
theorem dX6_pickAll_50 : decode cX6_pickAll 50 = .ok (.iload_n 3, 1) := by decide +kernel
theorem dX6_pickAll_51 : decode cX6_pickAll 51 = .ok (.iastore, 1) := by decide +kernel
theorem dX6_pickAll_52 : decode cX6_pickAll 52 = .ok (.iinc 4 1, 3) := by decide +kernel
theorem dX6_pickAll_55 : decode cX6_pickAll 55 = .ok (.goto (-42), 3) := by decide +kernel
theorem dX6_pickAll_58 : decode cX6_pickAll 58 = .ok (.iinc 3 1, 3) := by decide +kernel
theorem dX6_pickAll_61 : decode cX6_pickAll 61 = .ok (.goto (-59), 3) := by decide +kernel
theorem dX6_pickAll_64 : decode cX6_pickAll 64 = .ok (.return_, 1) := by decide +kernel
theorem dX6_passThoseOf_0 : decode cX6_passThoseOf 0 = .ok (.iconst 0, 1) := by decide +kernel
theorem dX6_passThoseOf_1 : decode cX6_passThoseOf 1 = .ok (.istore 5, 2) := by decide +kernel
theorem dX6_passThoseOf_3 : decode cX6_passThoseOf 3 = .ok (.iload 5, 2) := by decide +kernel
theorem dX6_passThoseOf_5 : decode cX6_passThoseOf 5 = .ok (.aload_n 2, 1) := by decide +kernel
theorem dX6_passThoseOf_6 : decode cX6_passThoseOf 6 = .ok (.getfield 39, 3) := by decide +kernel
theorem dX6_passThoseOf_9 : decode cX6_passThoseOf 9 = .ok (.if_icmp .ge 78, 3) := by decide +kernel
theorem dX6_passThoseOf_12 : decode cX6_passThoseOf 12 = .ok (.aload_n 0, 1) := by decide +kernel
theorem dX6_passThoseOf_13 : decode cX6_passThoseOf 13 = .ok (.getfield 22, 3) := by decide +kernel
theorem dX6_passThoseOf_16 : decode cX6_passThoseOf 16 = .ok (.iload_n 1, 1) := by decide +kernel
theorem dX6_passThoseOf_17 : decode cX6_passThoseOf 17 = .ok (.aaload, 1) := by decide +kernel
theorem dX6_passThoseOf_18 : decode cX6_passThoseOf 18 = .ok (.iload 5, 2) := by decide +kernel
theorem dX6_passThoseOf_20 : decode cX6_passThoseOf 20 = .ok (.iaload, 1) := by decide +kernel
theorem dX6_passThoseOf_21 : decode cX6_passThoseOf 21 = .ok (.iload_n 3, 1) := by decide +kernel
theorem dX6_passThoseOf_22 : decode cX6_passThoseOf 22 = .ok (.if_icmp .ne 27, 3) := by decide +kernel
theorem dX6_passThoseOf_25 : decode cX6_passThoseOf 25 = .ok (.aload_n 0, 1) := by decide +kernel
theorem dX6_passThoseOf_26 : decode cX6_passThoseOf 26 = .ok (.iload_n 3, 1) := by decide +kernel
theorem dX6_passThoseOf_27 : decode cX6_passThoseOf 27 = .ok (.aload_n 2, 1) := by decide +kernel
theorem dX6_passThoseOf_28 : decode cX6_passThoseOf 28 = .ok (.iload 5, 2) := by decide +kernel
theorem dX6_passThoseOf_30 : decode cX6_passThoseOf 30 = .ok (.iload_n 3, 1) := by decide +kernel
theorem dX6_passThoseOf_31 : decode cX6_passThoseOf 31 = .ok (.iload 4, 2) := by decide +kernel
theorem dX6_passThoseOf_33 : decode cX6_passThoseOf 33 = .ok (.invokevirtual 42, 3) := by decide +kernel
theorem dX6_passThoseOf_36 : decode cX6_passThoseOf 36 = .ok (.aload_n 2, 1) := by decide +kernel
theorem dX6_passThoseOf_37 : decode cX6_passThoseOf 37 = .ok (.getfield 46, 3) := by decide +kernel
theorem dX6_passThoseOf_40 : decode cX6_passThoseOf 40 = .ok (.iload 4, 2) := by decide +kernel
theorem dX6_passThoseOf_42 : decode cX6_passThoseOf 42 = .ok (.iaload, 1) := by decide +kernel
theorem dX6_passThoseOf_43 : decode cX6_passThoseOf 43 = .ok (.invokevirtual 50, 3) := by decide +kernel
theorem dX6_passThoseOf_46 : decode cX6_passThoseOf 46 = .ok (.goto 35, 3) := by decide +kernel
theorem dX6_passThoseOf_49 : decode cX6_passThoseOf 49 = .ok (.aload_n 0, 1) := by decide +kernel
theorem dX6_passThoseOf_50 : decode cX6_passThoseOf 50 = .ok (.getfield 22, 3) := by decide +kernel
theorem dX6_passThoseOf_53 : decode cX6_passThoseOf 53 = .ok (.iload_n 1, 1) := by decide +kernel
theorem dX6_passThoseOf_54 : decode cX6_passThoseOf 54 = .ok (.aaload, 1) := by decide +kernel
theorem dX6_passThoseOf_55 : decode cX6_passThoseOf 55 = .ok (.iload 5, 2) := by decide +kernel
theorem dX6_passThoseOf_57 : decode cX6_passThoseOf 57 = .ok (.iaload, 1) := by decide +kernel
theorem dX6_passThoseOf_58 : decode cX6_passThoseOf 58 = .ok (.bipush (-6), 2) := by decide +kernel
theorem dX6_passThoseOf_60 : decode cX6_passThoseOf 60 = .ok (.if_icmp .ne 21, 3) := by decide +kernel
theorem dX6_passThoseOf_63 : decode cX6_passThoseOf 63 = .ok (.iload_n 1, 1) := by decide +kernel
theorem dX6_passThoseOf_64 : decode cX6_passThoseOf 64 = .ok (.iload_n 3, 1) := by decide +kernel
theorem dX6_passThoseOf_65 : decode cX6_passThoseOf 65 = .ok (.if_icmp .ne 16, 3) := by decide +kernel
theorem dX6_passThoseOf_68 : decode cX6_passThoseOf 68 = .ok (.aload_n 0, 1) := by decide +kernel
theorem dX6_passThoseOf_69 : decode cX6_passThoseOf 69 = .ok (.iload_n 3, 1) := by decide +kernel
theorem dX6_passThoseOf_70 : decode cX6_passThoseOf 70 = .ok (.iconst 0, 1) := by decide +kernel
theorem dX6_passThoseOf_71 : decode cX6_passThoseOf 71 = .ok (.aload_n 2, 1) := by decide +kernel
theorem dX6_passThoseOf_72 : decode cX6_passThoseOf 72 = .ok (.getfield 46, 3) := by decide +kernel
theorem dX6_passThoseOf_75 : decode cX6_passThoseOf 75 = .ok (.iload 4, 2) := by decide +kernel
theorem dX6_passThoseOf_77 : decode cX6_passThoseOf 77 = .ok (.iaload, 1) := by decide +kernel
theorem dX6_passThoseOf_78 : decode cX6_passThoseOf 78 = .ok (.invokevirtual 50, 3) := by decide +kernel
theorem dX6_passThoseOf_81 : decode cX6_passThoseOf 81 = .ok (.iinc 5 1, 3) := by decide +kernel
theorem dX6_passThoseOf_84 : decode cX6_passThoseOf 84 = .ok (.goto (-81), 3) := by decide +kernel
theorem dX6_passThoseOf_87 : decode cX6_passThoseOf 87 = .ok (.return_, 1) := by decide +kernel
theorem dX6_passBuyer_0 : decode cX6_passBuyer 0 = .ok (.aload_n 0, 1) := by decide +kernel
theorem dX6_passBuyer_1 : decode cX6_passBuyer 1 = .ok (.getfield 11, 3) := by decide +kernel
theorem dX6_passBuyer_4 : decode cX6_passBuyer 4 = .ok (.iload_n 1, 1) := by decide +kernel
theorem dX6_passBuyer_5 : decode cX6_passBuyer 5 = .ok (.iconst 1, 1) := by decide +kernel
theorem dX6_passBuyer_6 : decode cX6_passBuyer 6 = .ok (.iadd, 1) := by decide +kernel
theorem dX6_passBuyer_7 : decode cX6_passBuyer 7 = .ok (.aaload, 1) := by decide +kernel
theorem dX6_passBuyer_8 : decode cX6_passBuyer 8 = .ok (.astore 4, 2) := by decide +kernel
theorem dX6_passBuyer_10 : decode cX6_passBuyer 10 = .ok (.lconst 0, 1) := by decide +kernel
theorem dX6_passBuyer_11 : decode cX6_passBuyer 11 = .ok (.lstore 5, 2) := by decide +kernel
theorem dX6_passBuyer_13 : decode cX6_passBuyer 13 = .ok (.aload 4, 2) := by decide +kernel
theorem dX6_passBuyer_15 : decode cX6_passBuyer 15 = .ok (.iconst 0, 1) := by decide +kernel
theorem dX6_passBuyer_16 : decode cX6_passBuyer 16 = .ok (.dup2, 1) := by decide +kernel
theorem dX6_passBuyer_17 : decode cX6_passBuyer 17 = .ok (.laload, 1) := by decide +kernel
theorem dX6_passBuyer_18 : decode cX6_passBuyer 18 = .ok (.ldc2_w 82, 3) := by decide +kernel
theorem dX6_passBuyer_21 : decode cX6_passBuyer 21 = .ok (.lmul, 1) := by decide +kernel
theorem dX6_passBuyer_22 : decode cX6_passBuyer 22 = .ok (.lastore, 1) := by decide +kernel
theorem dX6_passBuyer_23 : decode cX6_passBuyer 23 = .ok (.iconst 1, 1) := by decide +kernel
theorem dX6_passBuyer_24 : decode cX6_passBuyer 24 = .ok (.istore 7, 2) := by decide +kernel
theorem dX6_passBuyer_26 : decode cX6_passBuyer 26 = .ok (.iload 7, 2) := by decide +kernel
theorem dX6_passBuyer_28 : decode cX6_passBuyer 28 = .ok (.bipush 12, 2) := by decide +kernel
theorem dX6_passBuyer_30 : decode cX6_passBuyer 30 = .ok (.if_icmp .gt 55, 3) := by decide +kernel
theorem dX6_passBuyer_33 : decode cX6_passBuyer 33 = .ok (.aload 4, 2) := by decide +kernel
theorem dX6_passBuyer_35 : decode cX6_passBuyer 35 = .ok (.iload 7, 2) := by decide +kernel
theorem dX6_passBuyer_37 : decode cX6_passBuyer 37 = .ok (.laload, 1) := by decide +kernel
theorem dX6_passBuyer_38 : decode cX6_passBuyer 38 = .ok (.iload_n 2, 1) := by decide +kernel
theorem dX6_passBuyer_39 : decode cX6_passBuyer 39 = .ok (.i2l, 1) := by decide +kernel
theorem dX6_passBuyer_40 : decode cX6_passBuyer 40 = .ok (.lmul, 1) := by decide +kernel
theorem dX6_passBuyer_41 : decode cX6_passBuyer 41 = .ok (.lstore 8, 2) := by decide +kernel
theorem dX6_passBuyer_43 : decode cX6_passBuyer 43 = .ok (.lload 5, 2) := by decide +kernel
theorem dX6_passBuyer_45 : decode cX6_passBuyer 45 = .ok (.lload 8, 2) := by decide +kernel
theorem dX6_passBuyer_47 : decode cX6_passBuyer 47 = .ok (.ladd, 1) := by decide +kernel
theorem dX6_passBuyer_48 : decode cX6_passBuyer 48 = .ok (.lstore 5, 2) := by decide +kernel
theorem dX6_passBuyer_50 : decode cX6_passBuyer 50 = .ok (.aload 4, 2) := by decide +kernel
theorem dX6_passBuyer_52 : decode cX6_passBuyer 52 = .ok (.iload 7, 2) := by decide +kernel
theorem dX6_passBuyer_54 : decode cX6_passBuyer 54 = .ok (.iconst 1, 1) := by decide +kernel
theorem dX6_passBuyer_55 : decode cX6_passBuyer 55 = .ok (.isub, 1) := by decide +kernel
theorem dX6_passBuyer_56 : decode cX6_passBuyer 56 = .ok (.dup2, 1) := by decide +kernel
theorem dX6_passBuyer_57 : decode cX6_passBuyer 57 = .ok (.laload, 1) := by decide +kernel
theorem dX6_passBuyer_58 : decode cX6_passBuyer 58 = .ok (.lload 8, 2) := by decide +kernel
theorem dX6_passBuyer_60 : decode cX6_passBuyer 60 = .ok (.ladd, 1) := by decide +kernel
theorem dX6_passBuyer_61 : decode cX6_passBuyer 61 = .ok (.lastore, 1) := by decide +kernel
theorem dX6_passBuyer_62 : decode cX6_passBuyer 62 = .ok (.aload 4, 2) := by decide +kernel
theorem dX6_passBuyer_64 : decode cX6_passBuyer 64 = .ok (.iload 7, 2) := by decide +kernel
theorem dX6_passBuyer_66 : decode cX6_passBuyer 66 = .ok (.aload 4, 2) := by decide +kernel
theorem dX6_passBuyer_68 : decode cX6_passBuyer 68 = .ok (.iload 7, 2) := by decide +kernel
theorem dX6_passBuyer_70 : decode cX6_passBuyer 70 = .ok (.laload, 1) := by decide +kernel
theorem dX6_passBuyer_71 : decode cX6_passBuyer 71 = .ok (.ldc2_w 82, 3) := by decide +kernel
theorem dX6_passBuyer_74 : decode cX6_passBuyer 74 = .ok (.lmul, 1) := by decide +kernel
theorem dX6_passBuyer_75 : decode cX6_passBuyer 75 = .ok (.lload 8, 2) := by decide +kernel
theorem dX6_passBuyer_77 : decode cX6_passBuyer 77 = .ok (.lsub, 1) := by decide +kernel
theorem dX6_passBuyer_78 : decode cX6_passBuyer 78 = .ok (.lastore, 1) := by decide +kernel
theorem dX6_passBuyer_79 : decode cX6_passBuyer 79 = .ok (.iinc 7 1, 3) := by decide +kernel
theorem dX6_passBuyer_82 : decode cX6_passBuyer 82 = .ok (.goto (-56), 3) := by decide +kernel
theorem dX6_passBuyer_85 : decode cX6_passBuyer 85 = .ok (.aload_n 0, 1) := by decide +kernel
theorem dX6_passBuyer_86 : decode cX6_passBuyer 86 = .ok (.getfield 16, 3) := by decide +kernel
theorem dX6_passBuyer_89 : decode cX6_passBuyer 89 = .ok (.iload_n 1, 1) := by decide +kernel
theorem dX6_passBuyer_90 : decode cX6_passBuyer 90 = .ok (.iconst 1, 1) := by decide +kernel
theorem dX6_passBuyer_91 : decode cX6_passBuyer 91 = .ok (.iadd, 1) := by decide +kernel
theorem dX6_passBuyer_92 : decode cX6_passBuyer 92 = .ok (.aload_n 0, 1) := by decide +kernel
theorem dX6_passBuyer_93 : decode cX6_passBuyer 93 = .ok (.getfield 16, 3) := by decide +kernel
theorem dX6_passBuyer_96 : decode cX6_passBuyer 96 = .ok (.iload_n 1, 1) := by decide +kernel
theorem dX6_passBuyer_97 : decode cX6_passBuyer 97 = .ok (.iconst 1, 1) := by decide +kernel
theorem dX6_passBuyer_98 : decode cX6_passBuyer 98 = .ok (.iadd, 1) := by decide +kernel
theorem dX6_passBuyer_99 : decode cX6_passBuyer 99 = .ok (.laload, 1) := by decide +kernel
theorem dX6_passBuyer_100 : decode cX6_passBuyer 100 = .ok (.ldc2_w 82, 3) := by decide +kernel
theorem dX6_passBuyer_103 : decode cX6_passBuyer 103 = .ok (.lmul, 1) := by decide +kernel
theorem dX6_passBuyer_104 : decode cX6_passBuyer 104 = .ok (.lload 5, 2) := by decide +kernel
theorem dX6_passBuyer_106 : decode cX6_passBuyer 106 = .ok (.iload_n 3, 1) := by decide +kernel
theorem dX6_passBuyer_107 : decode cX6_passBuyer 107 = .ok (.i2l, 1) := by decide +kernel
theorem dX6_passBuyer_108 : decode cX6_passBuyer 108 = .ok (.lmul, 1) := by decide +kernel
theorem dX6_passBuyer_109 : decode cX6_passBuyer 109 = .ok (.ladd, 1) := by decide +kernel
theorem dX6_passBuyer_110 : decode cX6_passBuyer 110 = .ok (.lastore, 1) := by decide +kernel
theorem dX6_passBuyer_111 : decode cX6_passBuyer 111 = .ok (.return_, 1) := by decide +kernel
end
section
theorem dX7_init_0 : decode cX7_init 0 = .ok (.aload_n 0, 1) := by decide +kernel
theorem dX7_init_1 : decode cX7_init 1 = .ok (.invokespecial 1, 3) := by decide +kernel
theorem dX7_init_4 : decode cX7_init 4 = .ok (.aload_n 0, 1) := by decide +kernel
theorem dX7_init_5 : decode cX7_init 5 = .ok (.new 7, 3) := by decide +kernel
theorem dX7_init_8 : decode cX7_init 8 = .ok (.dup, 1) := by decide +kernel
theorem dX7_init_9 : decode cX7_init 9 = .ok (.invokespecial 9, 3) := by decide +kernel
theorem dX7_init_12 : decode cX7_init 12 = .ok (.putfield 10, 3) := by decide +kernel
theorem dX7_init_15 : decode cX7_init 15 = .ok (.aload_n 0, 1) := by decide +kernel
theorem dX7_init_16 : decode cX7_init 16 = .ok (.bipush 6, 2) := by decide +kernel
theorem dX7_init_18 : decode cX7_init 18 = .ok (.newarray .int, 2) := by decide +kernel
theorem dX7_init_20 : decode cX7_init 20 = .ok (.putfield 16, 3) := by decide +kernel
theorem dX7_init_23 : decode cX7_init 23 = .ok (.aload_n 0, 1) := by decide +kernel
theorem dX7_init_24 : decode cX7_init 24 = .ok (.new 20, 3) := by decide +kernel
theorem dX7_init_27 : decode cX7_init 27 = .ok (.dup, 1) := by decide +kernel
theorem dX7_init_28 : decode cX7_init 28 = .ok (.invokespecial 22, 3) := by decide +kernel
theorem dX7_init_31 : decode cX7_init 31 = .ok (.putfield 23, 3) := by decide +kernel
theorem dX7_init_34 : decode cX7_init 34 = .ok (.aload_n 0, 1) := by decide +kernel
theorem dX7_init_35 : decode cX7_init 35 = .ok (.new 20, 3) := by decide +kernel
theorem dX7_init_38 : decode cX7_init 38 = .ok (.dup, 1) := by decide +kernel
theorem dX7_init_39 : decode cX7_init 39 = .ok (.invokespecial 22, 3) := by decide +kernel
theorem dX7_init_42 : decode cX7_init 42 = .ok (.putfield 27, 3) := by decide +kernel
theorem dX7_init_45 : decode cX7_init 45 = .ok (.aload_n 0, 1) := by decide +kernel
theorem dX7_init_46 : decode cX7_init 46 = .ok (.new 30, 3) := by decide +kernel
theorem dX7_init_49 : decode cX7_init 49 = .ok (.dup, 1) := by decide +kernel
theorem dX7_init_50 : decode cX7_init 50 = .ok (.invokespecial 32, 3) := by decide +kernel
theorem dX7_init_53 : decode cX7_init 53 = .ok (.putfield 33, 3) := by decide +kernel
theorem dX7_init_56 : decode cX7_init 56 = .ok (.aload_n 0, 1) := by decide +kernel
theorem dX7_init_57 : decode cX7_init 57 = .ok (.new 37, 3) := by decide +kernel
theorem dX7_init_60 : decode cX7_init 60 = .ok (.dup, 1) := by decide +kernel
theorem dX7_init_61 : decode cX7_init 61 = .ok (.invokespecial 39, 3) := by decide +kernel
theorem dX7_init_64 : decode cX7_init 64 = .ok (.putfield 40, 3) := by decide +kernel
theorem dX7_init_67 : decode cX7_init 67 = .ok (.aload_n 0, 1) := by decide +kernel
theorem dX7_init_68 : decode cX7_init 68 = .ok (.new 44, 3) := by decide +kernel
theorem dX7_init_71 : decode cX7_init 71 = .ok (.dup, 1) := by decide +kernel
theorem dX7_init_72 : decode cX7_init 72 = .ok (.invokespecial 46, 3) := by decide +kernel
theorem dX7_init_75 : decode cX7_init 75 = .ok (.putfield 47, 3) := by decide +kernel
theorem dX7_init_78 : decode cX7_init 78 = .ok (.aload_n 0, 1) := by decide +kernel
theorem dX7_init_79 : decode cX7_init 79 = .ok (.new 44, 3) := by decide +kernel
theorem dX7_init_82 : decode cX7_init 82 = .ok (.dup, 1) := by decide +kernel
theorem dX7_init_83 : decode cX7_init 83 = .ok (.invokespecial 46, 3) := by decide +kernel
theorem dX7_init_86 : decode cX7_init 86 = .ok (.putfield 51, 3) := by decide +kernel
theorem dX7_init_89 : decode cX7_init 89 = .ok (.aload_n 0, 1) := by decide +kernel
theorem dX7_init_90 : decode cX7_init 90 = .ok (.new 44, 3) := by decide +kernel
theorem dX7_init_93 : decode cX7_init 93 = .ok (.dup, 1) := by decide +kernel
theorem dX7_init_94 : decode cX7_init 94 = .ok (.invokespecial 46, 3) := by decide +kernel
theorem dX7_init_97 : decode cX7_init 97 = .ok (.putfield 54, 3) := by decide +kernel
theorem dX7_init_100 : decode cX7_init 100 = .ok (.aload_n 0, 1) := by decide +kernel
theorem dX7_init_101 : decode cX7_init 101 = .ok (.new 57, 3) := by decide +kernel
theorem dX7_init_104 : decode cX7_init 104 = .ok (.dup, 1) := by decide +kernel
theorem dX7_init_105 : decode cX7_init 105 = .ok (.invokespecial 59, 3) := by decide +kernel
theorem dX7_init_108 : decode cX7_init 108 = .ok (.putfield 60, 3) := by decide +kernel
theorem dX7_init_111 : decode cX7_init 111 = .ok (.aload_n 0, 1) := by decide +kernel
theorem dX7_init_112 : decode cX7_init 112 = .ok (.new 64, 3) := by decide +kernel
theorem dX7_init_115 : decode cX7_init 115 = .ok (.dup, 1) := by decide +kernel
theorem dX7_init_116 : decode cX7_init 116 = .ok (.invokespecial 66, 3) := by decide +kernel
theorem dX7_init_119 : decode cX7_init 119 = .ok (.putfield 67, 3) := by decide +kernel
theorem dX7_init_122 : decode cX7_init 122 = .ok (.aload_n 0, 1) := by decide +kernel
theorem dX7_init_123 : decode cX7_init 123 = .ok (.iconst (-1), 1) := by decide +kernel
theorem dX7_init_124 : decode cX7_init 124 = .ok (.putfield 71, 3) := by decide +kernel
theorem dX7_init_127 : decode cX7_init 127 = .ok (.aload_n 0, 1) := by decide +kernel
theorem dX7_init_128 : decode cX7_init 128 = .ok (.iconst (-1), 1) := by decide +kernel
theorem dX7_init_129 : decode cX7_init 129 = .ok (.putfield 75, 3) := by decide +kernel
theorem dX7_init_132 : decode cX7_init 132 = .ok (.aload_n 0, 1) := by decide +kernel
theorem dX7_init_133 : decode cX7_init 133 = .ok (.iconst (-1), 1) := by decide +kernel
theorem dX7_init_134 : decode cX7_init 134 = .ok (.putfield 78, 3) := by decide +kernel
theorem dX7_init_137 : decode cX7_init 137 = .ok (.return_, 1) := by decide +kernel
theorem dX7_set_0 : decode cX7_set 0 = .ok (.iload_n 1, 1) := by decide +kernel
theorem dX7_set_1 : decode cX7_set 1 = .ok (.ifCond .ne 32, 3) := by decide +kernel
theorem dX7_set_4 : decode cX7_set 4 = .ok (.iload_n 2, 1) := by decide +kernel
theorem dX7_set_5 : decode cX7_set 5 = .ok (.iconst 0, 1) := by decide +kernel
theorem dX7_set_6 : decode cX7_set 6 = .ok (.bipush 12, 2) := by decide +kernel
theorem dX7_set_8 : decode cX7_set 8 = .ok (.invokestatic 81, 3) := by decide +kernel
theorem dX7_set_11 : decode cX7_set 11 = .ok (.ifCond .eq 22, 3) := by decide +kernel
theorem dX7_set_14 : decode cX7_set 14 = .ok (.aload_n 0, 1) := by decide +kernel
theorem dX7_set_15 : decode cX7_set 15 = .ok (.getfield 10, 3) := by decide +kernel
theorem dX7_set_18 : decode cX7_set 18 = .ok (.getfield 85, 3) := by decide +kernel
theorem dX7_set_21 : decode cX7_set 21 = .ok (.istore_n 3, 1) := by decide +kernel
theorem dX7_set_22 : decode cX7_set 22 = .ok (.aload_n 0, 1) := by decide +kernel
theorem dX7_set_23 : decode cX7_set 23 = .ok (.getfield 10, 3) := by decide +kernel
theorem dX7_set_26 : decode cX7_set 26 = .ok (.iload_n 2, 1) := by decide +kernel
theorem dX7_set_27 : decode cX7_set 27 = .ok (.putfield 85, 3) := by decide +kernel
theorem dX7_set_30 : decode cX7_set 30 = .ok (.goto 74, 3) := by decide +kernel
theorem dX7_set_33 : decode cX7_set 33 = .ok (.iload_n 1, 1) := by decide +kernel
theorem dX7_set_34 : decode cX7_set 34 = .ok (.iconst 1, 1) := by decide +kernel
theorem dX7_set_35 : decode cX7_set 35 = .ok (.if_icmp .ne 32, 3) := by decide +kernel
theorem dX7_set_38 : decode cX7_set 38 = .ok (.iload_n 2, 1) := by decide +kernel
theorem dX7_set_39 : decode cX7_set 39 = .ok (.iconst 1, 1) := by decide +kernel
theorem dX7_set_40 : decode cX7_set 40 = .ok (.bipush 6, 2) := by decide +kernel
theorem dX7_set_42 : decode cX7_set 42 = .ok (.invokestatic 81, 3) := by decide +kernel
theorem dX7_set_45 : decode cX7_set 45 = .ok (.ifCond .eq 22, 3) := by decide +kernel
theorem dX7_set_48 : decode cX7_set 48 = .ok (.aload_n 0, 1) := by decide +kernel
theorem dX7_set_49 : decode cX7_set 49 = .ok (.getfield 10, 3) := by decide +kernel
theorem dX7_set_52 : decode cX7_set 52 = .ok (.getfield 88, 3) := by decide +kernel
theorem dX7_set_55 : decode cX7_set 55 = .ok (.istore_n 3, 1) := by decide +kernel
theorem dX7_set_56 : decode cX7_set 56 = .ok (.aload_n 0, 1) := by decide +kernel
theorem dX7_set_57 : decode cX7_set 57 = .ok (.getfield 10, 3) := by decide +kernel
theorem dX7_set_60 : decode cX7_set 60 = .ok (.iload_n 2, 1) := by decide +kernel
theorem dX7_set_61 : decode cX7_set 61 = .ok (.putfield 88, 3) := by decide +kernel
theorem dX7_set_64 : decode cX7_set 64 = .ok (.goto 40, 3) := by decide +kernel
theorem dX7_set_67 : decode cX7_set 67 = .ok (.iload_n 1, 1) := by decide +kernel
theorem dX7_set_68 : decode cX7_set 68 = .ok (.iconst 2, 1) := by decide +kernel
theorem dX7_set_69 : decode cX7_set 69 = .ok (.if_icmp .ne 32, 3) := by decide +kernel
theorem dX7_set_72 : decode cX7_set 72 = .ok (.iload_n 2, 1) := by decide +kernel
theorem dX7_set_73 : decode cX7_set 73 = .ok (.iconst 0, 1) := by decide +kernel
theorem dX7_set_74 : decode cX7_set 74 = .ok (.bipush 99, 2) := by decide +kernel
theorem dX7_set_76 : decode cX7_set 76 = .ok (.invokestatic 81, 3) := by decide +kernel
theorem dX7_set_79 : decode cX7_set 79 = .ok (.ifCond .eq 22, 3) := by decide +kernel
theorem dX7_set_82 : decode cX7_set 82 = .ok (.aload_n 0, 1) := by decide +kernel
theorem dX7_set_83 : decode cX7_set 83 = .ok (.getfield 10, 3) := by decide +kernel
theorem dX7_set_86 : decode cX7_set 86 = .ok (.getfield 91, 3) := by decide +kernel
theorem dX7_set_89 : decode cX7_set 89 = .ok (.istore_n 3, 1) := by decide +kernel
theorem dX7_set_90 : decode cX7_set 90 = .ok (.aload_n 0, 1) := by decide +kernel
theorem dX7_set_91 : decode cX7_set 91 = .ok (.getfield 10, 3) := by decide +kernel
theorem dX7_set_94 : decode cX7_set 94 = .ok (.iload_n 2, 1) := by decide +kernel
theorem dX7_set_95 : decode cX7_set 95 = .ok (.putfield 91, 3) := by decide +kernel
theorem dX7_set_98 : decode cX7_set 98 = .ok (.goto 6, 3) := by decide +kernel
theorem dX7_set_101 : decode cX7_set 101 = .ok (.bipush (-2), 2) := by decide +kernel
theorem dX7_set_103 : decode cX7_set 103 = .ok (.ireturn, 1) := by decide +kernel
theorem dX7_set_104 : decode cX7_set 104 = .ok (.aload_n 0, 1) := by decide +kernel
theorem dX7_set_105 : decode cX7_set 105 = .ok (.getfield 10, 3) := by decide +kernel
theorem dX7_set_108 : decode cX7_set 108 = .ok (.dup, 1) := by decide +kernel
theorem dX7_set_109 : decode cX7_set 109 = .ok (.getfield 94, 3) := by decide +kernel
theorem dX7_set_112 : decode cX7_set 112 = .ok (.iconst 1, 1) := by decide +kernel
theorem dX7_set_113 : decode cX7_set 113 = .ok (.iadd, 1) := by decide +kernel
theorem dX7_set_114 : decode cX7_set 114 = .ok (.putfield 94, 3) := by decide +kernel
theorem dX7_set_117 : decode cX7_set 117 = .ok (.iload_n 3, 1) := by decide +kernel
theorem dX7_set_118 : decode cX7_set 118 = .ok (.ireturn, 1) := by decide +kernel
theorem dX7_price_0 : decode cX7_price 0 = .ok (.aload_n 0, 1) := by decide +kernel
theorem dX7_price_1 : decode cX7_price 1 = .ok (.getfield 10, 3) := by decide +kernel
theorem dX7_price_4 : decode cX7_price 4 = .ok (.getfield 97, 3) := by decide +kernel
theorem dX7_price_7 : decode cX7_price 7 = .ok (.istore_n 2, 1) := by decide +kernel
theorem dX7_price_8 : decode cX7_price 8 = .ok (.iload_n 1, 1) := by decide +kernel
theorem dX7_price_9 : decode cX7_price 9 = .ok (.iconst 1, 1) := by decide +kernel
theorem dX7_price_10 : decode cX7_price 10 = .ok (.bipush 99, 2) := by decide +kernel
theorem dX7_price_12 : decode cX7_price 12 = .ok (.invokestatic 81, 3) := by decide +kernel
theorem dX7_price_15 : decode cX7_price 15 = .ok (.ifCond .eq 22, 3) := by decide +kernel
theorem dX7_price_18 : decode cX7_price 18 = .ok (.iload_n 2, 1) := by decide +kernel
theorem dX7_price_19 : decode cX7_price 19 = .ok (.ifCond .le 21, 3) := by decide +kernel
theorem dX7_price_22 : decode cX7_price 22 = .ok (.iload_n 1, 1) := by decide +kernel
theorem dX7_price_23 : decode cX7_price 23 = .ok (.aload_n 0, 1) := by decide +kernel
theorem dX7_price_24 : decode cX7_price 24 = .ok (.getfield 10, 3) := by decide +kernel
theorem dX7_price_27 : decode cX7_price 27 = .ok (.getfield 100, 3) := by decide +kernel
theorem dX7_price_30 : decode cX7_price 30 = .ok (.iload_n 2, 1) := by decide +kernel
theorem dX7_price_31 : decode cX7_price 31 = .ok (.iconst 1, 1) := by decide +kernel
theorem dX7_price_32 : decode cX7_price 32 = .ok (.isub, 1) := by decide +kernel
theorem dX7_price_33 : decode cX7_price 33 = .ok (.iaload, 1) := by decide +kernel
theorem dX7_price_34 : decode cX7_price 34 = .ok (.if_icmp .lt 6, 3) := by decide +kernel
theorem dX7_price_37 : decode cX7_price 37 = .ok (.bipush (-2), 2) := by decide +kernel
theorem dX7_price_39 : decode cX7_price 39 = .ok (.ireturn, 1) := by decide +kernel
theorem dX7_price_40 : decode cX7_price 40 = .ok (.iload_n 2, 1) := by decide +kernel
theorem dX7_price_41 : decode cX7_price 41 = .ok (.iconst 5, 1) := by decide +kernel
theorem dX7_price_42 : decode cX7_price 42 = .ok (.if_icmp .lt 6, 3) := by decide +kernel
theorem dX7_price_45 : decode cX7_price 45 = .ok (.bipush (-4), 2) := by decide +kernel
theorem dX7_price_47 : decode cX7_price 47 = .ok (.ireturn, 1) := by decide +kernel
theorem dX7_price_48 : decode cX7_price 48 = .ok (.aload_n 0, 1) := by decide +kernel
theorem dX7_price_49 : decode cX7_price 49 = .ok (.getfield 10, 3) := by decide +kernel
theorem dX7_price_52 : decode cX7_price 52 = .ok (.getfield 100, 3) := by decide +kernel
theorem dX7_price_55 : decode cX7_price 55 = .ok (.iload_n 2, 1) := by decide +kernel
theorem dX7_price_56 : decode cX7_price 56 = .ok (.iload_n 1, 1) := by decide +kernel
theorem dX7_price_57 : decode cX7_price 57 = .ok (.iastore, 1) := by decide +kernel
theorem dX7_price_58 : decode cX7_price 58 = .ok (.aload_n 0, 1) := by decide +kernel
theorem dX7_price_59 : decode cX7_price 59 = .ok (.getfield 10, 3) := by decide +kernel
theorem dX7_price_62 : decode cX7_price 62 = .ok (.dup, 1) := by decide +kernel
theorem dX7_price_63 : decode cX7_price 63 = .ok (.getfield 97, 3) := by decide +kernel
theorem dX7_price_66 : decode cX7_price 66 = .ok (.iconst 1, 1) := by decide +kernel
theorem dX7_price_67 : decode cX7_price 67 = .ok (.iadd, 1) := by decide +kernel
theorem dX7_price_68 : decode cX7_price 68 = .ok (.putfield 97, 3) := by decide +kernel
theorem dX7_price_71 : decode cX7_price 71 = .ok (.aload_n 0, 1) := by decide +kernel
theorem dX7_price_72 : decode cX7_price 72 = .ok (.getfield 10, 3) := by decide +kernel
theorem dX7_price_75 : decode cX7_price 75 = .ok (.dup, 1) := by decide +kernel
theorem dX7_price_76 : decode cX7_price 76 = .ok (.getfield 94, 3) := by decide +kernel
theorem dX7_price_79 : decode cX7_price 79 = .ok (.iconst 1, 1) := by decide +kernel
theorem dX7_price_80 : decode cX7_price 80 = .ok (.iadd, 1) := by decide +kernel
theorem dX7_price_81 : decode cX7_price 81 = .ok (.putfield 94, 3) := by decide +kernel
theorem dX7_price_84 : decode cX7_price 84 = .ok (.iload_n 2, 1) := by decide +kernel
theorem dX7_price_85 : decode cX7_price 85 = .ok (.ireturn, 1) := by decide +kernel
theorem dX7_sort_0 : decode cX7_sort 0 = .ok (.iload_n 1, 1) := by decide +kernel
theorem dX7_sort_1 : decode cX7_sort 1 = .ok (.iconst 0, 1) := by decide +kernel
theorem dX7_sort_2 : decode cX7_sort 2 = .ok (.iconst 4, 1) := by decide +kernel
theorem dX7_sort_3 : decode cX7_sort 3 = .ok (.invokestatic 81, 3) := by decide +kernel
theorem dX7_sort_6 : decode cX7_sort 6 = .ok (.ifCond .eq 23, 3) := by decide +kernel
theorem dX7_sort_9 : decode cX7_sort 9 = .ok (.iload_n 2, 1) := by decide +kernel
theorem dX7_sort_10 : decode cX7_sort 10 = .ok (.iconst 0, 1) := by decide +kernel
theorem dX7_sort_11 : decode cX7_sort 11 = .ok (.bipush 99, 2) := by decide +kernel
theorem dX7_sort_13 : decode cX7_sort 13 = .ok (.invokestatic 81, 3) := by decide +kernel
theorem dX7_sort_16 : decode cX7_sort 16 = .ok (.ifCond .eq 13, 3) := by decide +kernel
theorem dX7_sort_19 : decode cX7_sort 19 = .ok (.iload_n 3, 1) := by decide +kernel
theorem dX7_sort_20 : decode cX7_sort 20 = .ok (.iconst 0, 1) := by decide +kernel
theorem dX7_sort_21 : decode cX7_sort 21 = .ok (.bipush 30, 2) := by decide +kernel
theorem dX7_sort_23 : decode cX7_sort 23 = .ok (.invokestatic 81, 3) := by decide +kernel
theorem dX7_sort_26 : decode cX7_sort 26 = .ok (.ifCond .ne 6, 3) := by decide +kernel
theorem dX7_sort_29 : decode cX7_sort 29 = .ok (.bipush (-2), 2) := by decide +kernel
theorem dX7_sort_31 : decode cX7_sort 31 = .ok (.ireturn, 1) := by decide +kernel
theorem dX7_sort_32 : decode cX7_sort 32 = .ok (.aload_n 0, 1) := by decide +kernel
theorem dX7_sort_33 : decode cX7_sort 33 = .ok (.getfield 10, 3) := by decide +kernel
theorem dX7_sort_36 : decode cX7_sort 36 = .ok (.getfield 103, 3) := by decide +kernel
theorem dX7_sort_39 : decode cX7_sort 39 = .ok (.istore 4, 2) := by decide +kernel
theorem dX7_sort_41 : decode cX7_sort 41 = .ok (.iload 4, 2) := by decide +kernel
theorem dX7_sort_43 : decode cX7_sort 43 = .ok (.iconst 3, 1) := by decide +kernel
theorem dX7_sort_44 : decode cX7_sort 44 = .ok (.if_icmp .lt 6, 3) := by decide +kernel
theorem dX7_sort_47 : decode cX7_sort 47 = .ok (.bipush (-4), 2) := by decide +kernel
theorem dX7_sort_49 : decode cX7_sort 49 = .ok (.ireturn, 1) := by decide +kernel
theorem dX7_sort_50 : decode cX7_sort 50 = .ok (.aload_n 0, 1) := by decide +kernel
theorem dX7_sort_51 : decode cX7_sort 51 = .ok (.getfield 10, 3) := by decide +kernel
theorem dX7_sort_54 : decode cX7_sort 54 = .ok (.getfield 106, 3) := by decide +kernel
theorem dX7_sort_57 : decode cX7_sort 57 = .ok (.iload 4, 2) := by decide +kernel
theorem dX7_sort_59 : decode cX7_sort 59 = .ok (.iload_n 1, 1) := by decide +kernel
theorem dX7_sort_60 : decode cX7_sort 60 = .ok (.iastore, 1) := by decide +kernel
theorem dX7_sort_61 : decode cX7_sort 61 = .ok (.aload_n 0, 1) := by decide +kernel
theorem dX7_sort_62 : decode cX7_sort 62 = .ok (.getfield 10, 3) := by decide +kernel
theorem dX7_sort_65 : decode cX7_sort 65 = .ok (.getfield 109, 3) := by decide +kernel
theorem dX7_sort_68 : decode cX7_sort 68 = .ok (.iload 4, 2) := by decide +kernel
theorem dX7_sort_70 : decode cX7_sort 70 = .ok (.iload_n 2, 1) := by decide +kernel
theorem dX7_sort_71 : decode cX7_sort 71 = .ok (.iastore, 1) := by decide +kernel
theorem dX7_sort_72 : decode cX7_sort 72 = .ok (.aload_n 0, 1) := by decide +kernel
theorem dX7_sort_73 : decode cX7_sort 73 = .ok (.getfield 10, 3) := by decide +kernel
theorem dX7_sort_76 : decode cX7_sort 76 = .ok (.getfield 112, 3) := by decide +kernel
theorem dX7_sort_79 : decode cX7_sort 79 = .ok (.iload 4, 2) := by decide +kernel
theorem dX7_sort_81 : decode cX7_sort 81 = .ok (.iload_n 3, 1) := by decide +kernel
theorem dX7_sort_82 : decode cX7_sort 82 = .ok (.iastore, 1) := by decide +kernel
theorem dX7_sort_83 : decode cX7_sort 83 = .ok (.aload_n 0, 1) := by decide +kernel
theorem dX7_sort_84 : decode cX7_sort 84 = .ok (.getfield 10, 3) := by decide +kernel
theorem dX7_sort_87 : decode cX7_sort 87 = .ok (.getfield 115, 3) := by decide +kernel
theorem dX7_sort_90 : decode cX7_sort 90 = .ok (.iload 4, 2) := by decide +kernel
theorem dX7_sort_92 : decode cX7_sort 92 = .ok (.iconst (-1), 1) := by decide +kernel
theorem dX7_sort_93 : decode cX7_sort 93 = .ok (.iastore, 1) := by decide +kernel
theorem dX7_sort_94 : decode cX7_sort 94 = .ok (.aload_n 0, 1) := by decide +kernel
theorem dX7_sort_95 : decode cX7_sort 95 = .ok (.getfield 10, 3) := by decide +kernel
theorem dX7_sort_98 : decode cX7_sort 98 = .ok (.dup, 1) := by decide +kernel
theorem dX7_sort_99 : decode cX7_sort 99 = .ok (.getfield 103, 3) := by decide +kernel
theorem dX7_sort_102 : decode cX7_sort 102 = .ok (.iconst 1, 1) := by decide +kernel
theorem dX7_sort_103 : decode cX7_sort 103 = .ok (.iadd, 1) := by decide +kernel
theorem dX7_sort_104 : decode cX7_sort 104 = .ok (.putfield 103, 3) := by decide +kernel
theorem dX7_sort_107 : decode cX7_sort 107 = .ok (.aload_n 0, 1) := by decide +kernel
theorem dX7_sort_108 : decode cX7_sort 108 = .ok (.getfield 10, 3) := by decide +kernel
theorem dX7_sort_111 : decode cX7_sort 111 = .ok (.dup, 1) := by decide +kernel
theorem dX7_sort_112 : decode cX7_sort 112 = .ok (.getfield 94, 3) := by decide +kernel
theorem dX7_sort_115 : decode cX7_sort 115 = .ok (.iconst 1, 1) := by decide +kernel
theorem dX7_sort_116 : decode cX7_sort 116 = .ok (.iadd, 1) := by decide +kernel
theorem dX7_sort_117 : decode cX7_sort 117 = .ok (.putfield 94, 3) := by decide +kernel
theorem dX7_sort_120 : decode cX7_sort 120 = .ok (.iload 4, 2) := by decide +kernel
theorem dX7_sort_122 : decode cX7_sort 122 = .ok (.ireturn, 1) := by decide +kernel
theorem dX7_change_0 : decode cX7_change 0 = .ok (.aload_n 0, 1) := by decide +kernel
theorem dX7_change_1 : decode cX7_change 1 = .ok (.getfield 10, 3) := by decide +kernel
theorem dX7_change_4 : decode cX7_change 4 = .ok (.iload_n 1, 1) := by decide +kernel
theorem dX7_change_5 : decode cX7_change 5 = .ok (.invokevirtual 118, 3) := by decide +kernel
theorem dX7_change_8 : decode cX7_change 8 = .ok (.ifCond .ne 5, 3) := by decide +kernel
theorem dX7_change_11 : decode cX7_change 11 = .ok (.iconst (-1), 1) := by decide +kernel
theorem dX7_change_12 : decode cX7_change 12 = .ok (.ireturn, 1) := by decide +kernel
theorem dX7_change_13 : decode cX7_change 13 = .ok (.iload_n 2, 1) := by decide +kernel
theorem dX7_change_14 : decode cX7_change 14 = .ok (.ifCond .ne 36, 3) := by decide +kernel
theorem dX7_change_17 : decode cX7_change 17 = .ok (.iload_n 3, 1) := by decide +kernel
theorem dX7_change_18 : decode cX7_change 18 = .ok (.iconst 0, 1) := by decide +kernel
theorem dX7_change_19 : decode cX7_change 19 = .ok (.iconst 4, 1) := by decide +kernel
theorem dX7_change_20 : decode cX7_change 20 = .ok (.invokestatic 81, 3) := by decide +kernel
theorem dX7_change_23 : decode cX7_change 23 = .ok (.ifCond .eq 27, 3) := by decide +kernel
theorem dX7_change_26 : decode cX7_change 26 = .ok (.aload_n 0, 1) := by decide +kernel
theorem dX7_change_27 : decode cX7_change 27 = .ok (.getfield 10, 3) := by decide +kernel
theorem dX7_change_30 : decode cX7_change 30 = .ok (.getfield 106, 3) := by decide +kernel
theorem dX7_change_33 : decode cX7_change 33 = .ok (.iload_n 1, 1) := by decide +kernel
theorem dX7_change_34 : decode cX7_change 34 = .ok (.iaload, 1) := by decide +kernel
theorem dX7_change_35 : decode cX7_change 35 = .ok (.istore 4, 2) := by decide +kernel
theorem dX7_change_37 : decode cX7_change 37 = .ok (.aload_n 0, 1) := by decide +kernel
theorem dX7_change_38 : decode cX7_change 38 = .ok (.getfield 10, 3) := by decide +kernel
theorem dX7_change_41 : decode cX7_change 41 = .ok (.getfield 106, 3) := by decide +kernel
theorem dX7_change_44 : decode cX7_change 44 = .ok (.iload_n 1, 1) := by decide +kernel
theorem dX7_change_45 : decode cX7_change 45 = .ok (.iload_n 3, 1) := by decide +kernel
theorem dX7_change_46 : decode cX7_change 46 = .ok (.iastore, 1) := by decide +kernel
theorem dX7_change_47 : decode cX7_change 47 = .ok (.goto 122, 3) := by decide +kernel
theorem dX7_change_50 : decode cX7_change 50 = .ok (.iload_n 2, 1) := by decide +kernel
theorem dX7_change_51 : decode cX7_change 51 = .ok (.iconst 1, 1) := by decide +kernel
theorem dX7_change_52 : decode cX7_change 52 = .ok (.if_icmp .ne 37, 3) := by decide +kernel
theorem dX7_change_55 : decode cX7_change 55 = .ok (.iload_n 3, 1) := by decide +kernel
theorem dX7_change_56 : decode cX7_change 56 = .ok (.iconst 0, 1) := by decide +kernel
theorem dX7_change_57 : decode cX7_change 57 = .ok (.bipush 99, 2) := by decide +kernel
theorem dX7_change_59 : decode cX7_change 59 = .ok (.invokestatic 81, 3) := by decide +kernel
theorem dX7_change_62 : decode cX7_change 62 = .ok (.ifCond .eq 27, 3) := by decide +kernel
theorem dX7_change_65 : decode cX7_change 65 = .ok (.aload_n 0, 1) := by decide +kernel
theorem dX7_change_66 : decode cX7_change 66 = .ok (.getfield 10, 3) := by decide +kernel
theorem dX7_change_69 : decode cX7_change 69 = .ok (.getfield 109, 3) := by decide +kernel
theorem dX7_change_72 : decode cX7_change 72 = .ok (.iload_n 1, 1) := by decide +kernel
theorem dX7_change_73 : decode cX7_change 73 = .ok (.iaload, 1) := by decide +kernel
theorem dX7_change_74 : decode cX7_change 74 = .ok (.istore 4, 2) := by decide +kernel
theorem dX7_change_76 : decode cX7_change 76 = .ok (.aload_n 0, 1) := by decide +kernel
theorem dX7_change_77 : decode cX7_change 77 = .ok (.getfield 10, 3) := by decide +kernel
theorem dX7_change_80 : decode cX7_change 80 = .ok (.getfield 109, 3) := by decide +kernel
theorem dX7_change_83 : decode cX7_change 83 = .ok (.iload_n 1, 1) := by decide +kernel
theorem dX7_change_84 : decode cX7_change 84 = .ok (.iload_n 3, 1) := by decide +kernel
theorem dX7_change_85 : decode cX7_change 85 = .ok (.iastore, 1) := by decide +kernel
theorem dX7_change_86 : decode cX7_change 86 = .ok (.goto 83, 3) := by decide +kernel
theorem dX7_change_89 : decode cX7_change 89 = .ok (.iload_n 2, 1) := by decide +kernel
theorem dX7_change_90 : decode cX7_change 90 = .ok (.iconst 2, 1) := by decide +kernel
theorem dX7_change_91 : decode cX7_change 91 = .ok (.if_icmp .ne 37, 3) := by decide +kernel
theorem dX7_change_94 : decode cX7_change 94 = .ok (.iload_n 3, 1) := by decide +kernel
theorem dX7_change_95 : decode cX7_change 95 = .ok (.iconst 0, 1) := by decide +kernel
theorem dX7_change_96 : decode cX7_change 96 = .ok (.bipush 30, 2) := by decide +kernel
theorem dX7_change_98 : decode cX7_change 98 = .ok (.invokestatic 81, 3) := by decide +kernel
theorem dX7_change_101 : decode cX7_change 101 = .ok (.ifCond .eq 27, 3) := by decide +kernel
theorem dX7_change_104 : decode cX7_change 104 = .ok (.aload_n 0, 1) := by decide +kernel
theorem dX7_change_105 : decode cX7_change 105 = .ok (.getfield 10, 3) := by decide +kernel
theorem dX7_change_108 : decode cX7_change 108 = .ok (.getfield 112, 3) := by decide +kernel
theorem dX7_change_111 : decode cX7_change 111 = .ok (.iload_n 1, 1) := by decide +kernel
theorem dX7_change_112 : decode cX7_change 112 = .ok (.iaload, 1) := by decide +kernel
theorem dX7_change_113 : decode cX7_change 113 = .ok (.istore 4, 2) := by decide +kernel
theorem dX7_change_115 : decode cX7_change 115 = .ok (.aload_n 0, 1) := by decide +kernel
theorem dX7_change_116 : decode cX7_change 116 = .ok (.getfield 10, 3) := by decide +kernel
theorem dX7_change_119 : decode cX7_change 119 = .ok (.getfield 112, 3) := by decide +kernel
theorem dX7_change_122 : decode cX7_change 122 = .ok (.iload_n 1, 1) := by decide +kernel
theorem dX7_change_123 : decode cX7_change 123 = .ok (.iload_n 3, 1) := by decide +kernel
theorem dX7_change_124 : decode cX7_change 124 = .ok (.iastore, 1) := by decide +kernel
theorem dX7_change_125 : decode cX7_change 125 = .ok (.goto 44, 3) := by decide +kernel
theorem dX7_change_128 : decode cX7_change 128 = .ok (.iload_n 2, 1) := by decide +kernel
theorem dX7_change_129 : decode cX7_change 129 = .ok (.iconst 3, 1) := by decide +kernel
theorem dX7_change_130 : decode cX7_change 130 = .ok (.if_icmp .ne 36, 3) := by decide +kernel
theorem dX7_change_133 : decode cX7_change 133 = .ok (.iload_n 3, 1) := by decide +kernel
theorem dX7_change_134 : decode cX7_change 134 = .ok (.iconst (-1), 1) := by decide +kernel
theorem dX7_change_135 : decode cX7_change 135 = .ok (.bipush 30, 2) := by decide +kernel
theorem dX7_change_137 : decode cX7_change 137 = .ok (.invokestatic 81, 3) := by decide +kernel
theorem dX7_change_140 : decode cX7_change 140 = .ok (.ifCond .eq 26, 3) := by decide +kernel
theorem dX7_change_143 : decode cX7_change 143 = .ok (.aload_n 0, 1) := by decide +kernel
theorem dX7_change_144 : decode cX7_change 144 = .ok (.getfield 10, 3) := by decide +kernel
theorem dX7_change_147 : decode cX7_change 147 = .ok (.iload_n 1, 1) := by decide +kernel
theorem dX7_change_148 : decode cX7_change 148 = .ok (.invokevirtual 122, 3) := by decide +kernel
theorem dX7_change_151 : decode cX7_change 151 = .ok (.istore 4, 2) := by decide +kernel
theorem dX7_change_153 : decode cX7_change 153 = .ok (.aload_n 0, 1) := by decide +kernel
theorem dX7_change_154 : decode cX7_change 154 = .ok (.getfield 10, 3) := by decide +kernel
theorem dX7_change_157 : decode cX7_change 157 = .ok (.getfield 115, 3) := by decide +kernel
theorem dX7_change_160 : decode cX7_change 160 = .ok (.iload_n 1, 1) := by decide +kernel
theorem dX7_change_161 : decode cX7_change 161 = .ok (.iload_n 3, 1) := by decide +kernel
theorem dX7_change_162 : decode cX7_change 162 = .ok (.iastore, 1) := by decide +kernel
theorem dX7_change_163 : decode cX7_change 163 = .ok (.goto 6, 3) := by decide +kernel
theorem dX7_change_166 : decode cX7_change 166 = .ok (.bipush (-2), 2) := by decide +kernel
theorem dX7_change_168 : decode cX7_change 168 = .ok (.ireturn, 1) := by decide +kernel
theorem dX7_change_169 : decode cX7_change 169 = .ok (.aload_n 0, 1) := by decide +kernel
theorem dX7_change_170 : decode cX7_change 170 = .ok (.getfield 10, 3) := by decide +kernel
theorem dX7_change_173 : decode cX7_change 173 = .ok (.dup, 1) := by decide +kernel
theorem dX7_change_174 : decode cX7_change 174 = .ok (.getfield 94, 3) := by decide +kernel
theorem dX7_change_177 : decode cX7_change 177 = .ok (.iconst 1, 1) := by decide +kernel
theorem dX7_change_178 : decode cX7_change 178 = .ok (.iadd, 1) := by decide +kernel
theorem dX7_change_179 : decode cX7_change 179 = .ok (.putfield 94, 3) := by decide +kernel
theorem dX7_change_182 : decode cX7_change 182 = .ok (.iload 4, 2) := by decide +kernel
theorem dX7_change_184 : decode cX7_change 184 = .ok (.ireturn, 1) := by decide +kernel
theorem dX7_worth_0 : decode cX7_worth 0 = .ok (.aload_n 0, 1) := by decide +kernel
theorem dX7_worth_1 : decode cX7_worth 1 = .ok (.getfield 10, 3) := by decide +kernel
theorem dX7_worth_4 : decode cX7_worth 4 = .ok (.iload_n 1, 1) := by decide +kernel
theorem dX7_worth_5 : decode cX7_worth 5 = .ok (.invokevirtual 118, 3) := by decide +kernel
theorem dX7_worth_8 : decode cX7_worth 8 = .ok (.ifCond .ne 5, 3) := by decide +kernel
theorem dX7_worth_11 : decode cX7_worth 11 = .ok (.iconst (-1), 1) := by decide +kernel
theorem dX7_worth_12 : decode cX7_worth 12 = .ok (.ireturn, 1) := by decide +kernel
theorem dX7_worth_13 : decode cX7_worth 13 = .ok (.iload_n 2, 1) := by decide +kernel
theorem dX7_worth_14 : decode cX7_worth 14 = .ok (.iconst 0, 1) := by decide +kernel
theorem dX7_worth_15 : decode cX7_worth 15 = .ok (.iconst 5, 1) := by decide +kernel
theorem dX7_worth_16 : decode cX7_worth 16 = .ok (.invokestatic 81, 3) := by decide +kernel
theorem dX7_worth_19 : decode cX7_worth 19 = .ok (.ifCond .eq 15, 3) := by decide +kernel
theorem dX7_worth_22 : decode cX7_worth 22 = .ok (.aload_n 0, 1) := by decide +kernel
theorem dX7_worth_23 : decode cX7_worth 23 = .ok (.getfield 10, 3) := by decide +kernel
theorem dX7_worth_26 : decode cX7_worth 26 = .ok (.iload_n 1, 1) := by decide +kernel
theorem dX7_worth_27 : decode cX7_worth 27 = .ok (.iload_n 2, 1) := by decide +kernel
theorem dX7_worth_28 : decode cX7_worth 28 = .ok (.invokevirtual 126, 3) := by decide +kernel
theorem dX7_worth_31 : decode cX7_worth 31 = .ok (.goto 5, 3) := by decide +kernel
theorem dX7_worth_34 : decode cX7_worth 34 = .ok (.bipush (-2), 2) := by decide +kernel
theorem dX7_worth_36 : decode cX7_worth 36 = .ok (.ireturn, 1) := by decide +kernel
theorem dX7_plan_0 : decode cX7_plan 0 = .ok (.aload_n 0, 1) := by decide +kernel
theorem dX7_plan_1 : decode cX7_plan 1 = .ok (.getfield 10, 3) := by decide +kernel
theorem dX7_plan_4 : decode cX7_plan 4 = .ok (.iload_n 2, 1) := by decide +kernel
theorem dX7_plan_5 : decode cX7_plan 5 = .ok (.invokevirtual 130, 3) := by decide +kernel
theorem dX7_plan_8 : decode cX7_plan 8 = .ok (.ifCond .ne 5, 3) := by decide +kernel
theorem dX7_plan_11 : decode cX7_plan 11 = .ok (.iconst (-1), 1) := by decide +kernel
theorem dX7_plan_12 : decode cX7_plan 12 = .ok (.ireturn, 1) := by decide +kernel
theorem dX7_plan_13 : decode cX7_plan 13 = .ok (.iload_n 1, 1) := by decide +kernel
theorem dX7_plan_14 : decode cX7_plan 14 = .ok (.iconst 0, 1) := by decide +kernel
theorem dX7_plan_15 : decode cX7_plan 15 = .ok (.iconst 5, 1) := by decide +kernel
theorem dX7_plan_16 : decode cX7_plan 16 = .ok (.invokestatic 81, 3) := by decide +kernel
theorem dX7_plan_19 : decode cX7_plan 19 = .ok (.ifCond .ne 6, 3) := by decide +kernel
theorem dX7_plan_22 : decode cX7_plan 22 = .ok (.bipush (-2), 2) := by decide +kernel
theorem dX7_plan_24 : decode cX7_plan 24 = .ok (.ireturn, 1) := by decide +kernel
theorem dX7_plan_25 : decode cX7_plan 25 = .ok (.aload_n 0, 1) := by decide +kernel
theorem dX7_plan_26 : decode cX7_plan 26 = .ok (.getfield 16, 3) := by decide +kernel
theorem dX7_plan_29 : decode cX7_plan 29 = .ok (.iload_n 1, 1) := by decide +kernel
theorem dX7_plan_30 : decode cX7_plan 30 = .ok (.iaload, 1) := by decide +kernel
theorem dX7_plan_31 : decode cX7_plan 31 = .ok (.istore_n 3, 1) := by decide +kernel
theorem dX7_plan_32 : decode cX7_plan 32 = .ok (.aload_n 0, 1) := by decide +kernel
theorem dX7_plan_33 : decode cX7_plan 33 = .ok (.getfield 16, 3) := by decide +kernel
theorem dX7_plan_36 : decode cX7_plan 36 = .ok (.iload_n 1, 1) := by decide +kernel
theorem dX7_plan_37 : decode cX7_plan 37 = .ok (.iload_n 2, 1) := by decide +kernel
theorem dX7_plan_38 : decode cX7_plan 38 = .ok (.iastore, 1) := by decide +kernel
theorem dX7_plan_39 : decode cX7_plan 39 = .ok (.iload_n 3, 1) := by decide +kernel
theorem dX7_plan_40 : decode cX7_plan 40 = .ok (.ireturn, 1) := by decide +kernel
theorem dX7_brings_0 : decode cX7_brings 0 = .ok (.aload_n 0, 1) := by decide +kernel
theorem dX7_brings_1 : decode cX7_brings 1 = .ok (.iload_n 1, 1) := by decide +kernel
theorem dX7_brings_2 : decode cX7_brings 2 = .ok (.invokestatic 133, 3) := by decide +kernel
theorem dX7_brings_5 : decode cX7_brings 5 = .ok (.invokevirtual 136, 3) := by decide +kernel
theorem dX7_brings_8 : decode cX7_brings 8 = .ok (.istore_n 2, 1) := by decide +kernel
theorem dX7_brings_9 : decode cX7_brings 9 = .ok (.iload_n 2, 1) := by decide +kernel
theorem dX7_brings_10 : decode cX7_brings 10 = .ok (.ifCond .eq 10, 3) := by decide +kernel
theorem dX7_brings_13 : decode cX7_brings 13 = .ok (.ldc2_w 140, 3) := by decide +kernel
theorem dX7_brings_16 : decode cX7_brings 16 = .ok (.iload_n 2, 1) := by decide +kernel
theorem dX7_brings_17 : decode cX7_brings 17 = .ok (.i2l, 1) := by decide +kernel
theorem dX7_brings_18 : decode cX7_brings 18 = .ok (.ladd, 1) := by decide +kernel
theorem dX7_brings_19 : decode cX7_brings 19 = .ok (.lreturn, 1) := by decide +kernel
theorem dX7_brings_20 : decode cX7_brings 20 = .ok (.aload_n 0, 1) := by decide +kernel
theorem dX7_brings_21 : decode cX7_brings 21 = .ok (.getfield 33, 3) := by decide +kernel
theorem dX7_brings_24 : decode cX7_brings 24 = .ok (.aload_n 0, 1) := by decide +kernel
theorem dX7_brings_25 : decode cX7_brings 25 = .ok (.getfield 10, 3) := by decide +kernel
theorem dX7_brings_28 : decode cX7_brings 28 = .ok (.aload_n 0, 1) := by decide +kernel
theorem dX7_brings_29 : decode cX7_brings 29 = .ok (.getfield 16, 3) := by decide +kernel
theorem dX7_brings_32 : decode cX7_brings 32 = .ok (.iconst 0, 1) := by decide +kernel
theorem dX7_brings_33 : decode cX7_brings 33 = .ok (.invokevirtual 142, 3) := by decide +kernel
theorem dX7_brings_36 : decode cX7_brings 36 = .ok (.aload_n 0, 1) := by decide +kernel
theorem dX7_brings_37 : decode cX7_brings 37 = .ok (.getfield 33, 3) := by decide +kernel
theorem dX7_brings_40 : decode cX7_brings 40 = .ok (.aload_n 0, 1) := by decide +kernel
theorem dX7_brings_41 : decode cX7_brings 41 = .ok (.getfield 10, 3) := by decide +kernel
theorem dX7_brings_44 : decode cX7_brings 44 = .ok (.invokevirtual 146, 3) := by decide +kernel
theorem dX7_brings_47 : decode cX7_brings 47 = .ok (.aload_n 0, 1) := by decide +kernel
theorem dX7_brings_48 : decode cX7_brings 48 = .ok (.getfield 10, 3) := by decide +kernel
theorem dX7_brings_51 : decode cX7_brings 51 = .ok (.aload_n 0, 1) := by decide +kernel
theorem dX7_brings_52 : decode cX7_brings 52 = .ok (.getfield 10, 3) := by decide +kernel
theorem dX7_brings_55 : decode cX7_brings 55 = .ok (.getfield 88, 3) := by decide +kernel
theorem dX7_brings_58 : decode cX7_brings 58 = .ok (.invokevirtual 150, 3) := by decide +kernel
theorem dX7_brings_61 : decode cX7_brings 61 = .ok (.iload_n 1, 1) := by decide +kernel
theorem dX7_brings_62 : decode cX7_brings 62 = .ok (.invokestatic 154, 3) := by decide +kernel
theorem dX7_brings_65 : decode cX7_brings 65 = .ok (.lreturn, 1) := by decide +kernel
theorem dX7_left_0 : decode cX7_left 0 = .ok (.aload_n 0, 1) := by decide +kernel
theorem dX7_left_1 : decode cX7_left 1 = .ok (.iload_n 1, 1) := by decide +kernel
theorem dX7_left_2 : decode cX7_left 2 = .ok (.iconst 0, 1) := by decide +kernel
theorem dX7_left_3 : decode cX7_left 3 = .ok (.aload_n 0, 1) := by decide +kernel
theorem dX7_left_4 : decode cX7_left 4 = .ok (.getfield 10, 3) := by decide +kernel
theorem dX7_left_7 : decode cX7_left 7 = .ok (.getfield 85, 3) := by decide +kernel
theorem dX7_left_10 : decode cX7_left 10 = .ok (.invokestatic 81, 3) := by decide +kernel
theorem dX7_left_13 : decode cX7_left 13 = .ok (.ifCond .eq 14, 3) := by decide +kernel
theorem dX7_left_16 : decode cX7_left 16 = .ok (.iload_n 2, 1) := by decide +kernel
theorem dX7_left_17 : decode cX7_left 17 = .ok (.invokestatic 133, 3) := by decide +kernel
theorem dX7_left_20 : decode cX7_left 20 = .ok (.ifCond .eq 7, 3) := by decide +kernel
theorem dX7_left_23 : decode cX7_left 23 = .ok (.iconst 1, 1) := by decide +kernel
theorem dX7_left_24 : decode cX7_left 24 = .ok (.goto 4, 3) := by decide +kernel
theorem dX7_left_27 : decode cX7_left 27 = .ok (.iconst 0, 1) := by decide +kernel
theorem dX7_left_28 : decode cX7_left 28 = .ok (.invokevirtual 136, 3) := by decide +kernel
theorem dX7_left_31 : decode cX7_left 31 = .ok (.istore_n 3, 1) := by decide +kernel
theorem dX7_left_32 : decode cX7_left 32 = .ok (.iload_n 3, 1) := by decide +kernel
theorem dX7_left_33 : decode cX7_left 33 = .ok (.ifCond .eq 10, 3) := by decide +kernel
theorem dX7_left_36 : decode cX7_left 36 = .ok (.ldc2_w 140, 3) := by decide +kernel
theorem dX7_left_39 : decode cX7_left 39 = .ok (.iload_n 3, 1) := by decide +kernel
theorem dX7_left_40 : decode cX7_left 40 = .ok (.i2l, 1) := by decide +kernel
theorem dX7_left_41 : decode cX7_left 41 = .ok (.ladd, 1) := by decide +kernel
theorem dX7_left_42 : decode cX7_left 42 = .ok (.lreturn, 1) := by decide +kernel
theorem dX7_left_43 : decode cX7_left 43 = .ok (.aload_n 0, 1) := by decide +kernel
theorem dX7_left_44 : decode cX7_left 44 = .ok (.getfield 33, 3) := by decide +kernel
theorem dX7_left_47 : decode cX7_left 47 = .ok (.aload_n 0, 1) := by decide +kernel
theorem dX7_left_48 : decode cX7_left 48 = .ok (.getfield 10, 3) := by decide +kernel
theorem dX7_left_51 : decode cX7_left 51 = .ok (.aload_n 0, 1) := by decide +kernel
theorem dX7_left_52 : decode cX7_left 52 = .ok (.getfield 16, 3) := by decide +kernel
theorem dX7_left_55 : decode cX7_left 55 = .ok (.iconst 0, 1) := by decide +kernel
theorem dX7_left_56 : decode cX7_left 56 = .ok (.invokevirtual 142, 3) := by decide +kernel
theorem dX7_left_59 : decode cX7_left 59 = .ok (.aload_n 0, 1) := by decide +kernel
theorem dX7_left_60 : decode cX7_left 60 = .ok (.getfield 33, 3) := by decide +kernel
theorem dX7_left_63 : decode cX7_left 63 = .ok (.getfield 158, 3) := by decide +kernel
theorem dX7_left_66 : decode cX7_left 66 = .ok (.aload_n 0, 1) := by decide +kernel
theorem dX7_left_67 : decode cX7_left 67 = .ok (.getfield 10, 3) := by decide +kernel
theorem dX7_left_70 : decode cX7_left 70 = .ok (.getfield 88, 3) := by decide +kernel
theorem dX7_left_73 : decode cX7_left 73 = .ok (.aaload, 1) := by decide +kernel
theorem dX7_left_74 : decode cX7_left 74 = .ok (.iload_n 1, 1) := by decide +kernel
theorem dX7_left_75 : decode cX7_left 75 = .ok (.laload, 1) := by decide +kernel
theorem dX7_left_76 : decode cX7_left 76 = .ok (.aload_n 0, 1) := by decide +kernel
theorem dX7_left_77 : decode cX7_left 77 = .ok (.getfield 10, 3) := by decide +kernel
theorem dX7_left_80 : decode cX7_left 80 = .ok (.aload_n 0, 1) := by decide +kernel
theorem dX7_left_81 : decode cX7_left 81 = .ok (.getfield 10, 3) := by decide +kernel
theorem dX7_left_84 : decode cX7_left 84 = .ok (.getfield 88, 3) := by decide +kernel
theorem dX7_left_87 : decode cX7_left 87 = .ok (.invokevirtual 150, 3) := by decide +kernel
theorem dX7_left_90 : decode cX7_left 90 = .ok (.iload_n 2, 1) := by decide +kernel
theorem dX7_left_91 : decode cX7_left 91 = .ok (.invokestatic 154, 3) := by decide +kernel
theorem dX7_left_94 : decode cX7_left 94 = .ok (.lreturn, 1) := by decide +kernel
theorem dX7_best_0 : decode cX7_best 0 = .ok (.aload_n 0, 1) := by decide +kernel
theorem dX7_best_1 : decode cX7_best 1 = .ok (.aload_n 0, 1) := by decide +kernel
theorem dX7_best_2 : decode cX7_best 2 = .ok (.iload_n 1, 1) := by decide +kernel
theorem dX7_best_3 : decode cX7_best 3 = .ok (.invokevirtual 162, 3) := by decide +kernel
theorem dX7_best_6 : decode cX7_best 6 = .ok (.ifCond .eq 22, 3) := by decide +kernel
theorem dX7_best_9 : decode cX7_best 9 = .ok (.iload_n 2, 1) := by decide +kernel
theorem dX7_best_10 : decode cX7_best 10 = .ok (.iconst 1, 1) := by decide +kernel
theorem dX7_best_11 : decode cX7_best 11 = .ok (.aload_n 0, 1) := by decide +kernel
theorem dX7_best_12 : decode cX7_best 12 = .ok (.getfield 10, 3) := by decide +kernel
theorem dX7_best_15 : decode cX7_best 15 = .ok (.getfield 85, 3) := by decide +kernel
theorem dX7_best_18 : decode cX7_best 18 = .ok (.invokestatic 81, 3) := by decide +kernel
theorem dX7_best_21 : decode cX7_best 21 = .ok (.ifCond .eq 7, 3) := by decide +kernel
theorem dX7_best_24 : decode cX7_best 24 = .ok (.iconst 1, 1) := by decide +kernel
theorem dX7_best_25 : decode cX7_best 25 = .ok (.goto 4, 3) := by decide +kernel
theorem dX7_best_28 : decode cX7_best 28 = .ok (.iconst 0, 1) := by decide +kernel
theorem dX7_best_29 : decode cX7_best 29 = .ok (.invokevirtual 136, 3) := by decide +kernel
theorem dX7_best_32 : decode cX7_best 32 = .ok (.istore_n 3, 1) := by decide +kernel
theorem dX7_best_33 : decode cX7_best 33 = .ok (.iload_n 3, 1) := by decide +kernel
theorem dX7_best_34 : decode cX7_best 34 = .ok (.ifCond .eq 5, 3) := by decide +kernel
theorem dX7_best_37 : decode cX7_best 37 = .ok (.iload_n 3, 1) := by decide +kernel
theorem dX7_best_38 : decode cX7_best 38 = .ok (.ireturn, 1) := by decide +kernel
theorem dX7_best_39 : decode cX7_best 39 = .ok (.aload_n 0, 1) := by decide +kernel
theorem dX7_best_40 : decode cX7_best 40 = .ok (.invokevirtual 165, 3) := by decide +kernel
theorem dX7_best_43 : decode cX7_best 43 = .ok (.aload_n 0, 1) := by decide +kernel
theorem dX7_best_44 : decode cX7_best 44 = .ok (.getfield 23, 3) := by decide +kernel
theorem dX7_best_47 : decode cX7_best 47 = .ok (.getfield 168, 3) := by decide +kernel
theorem dX7_best_50 : decode cX7_best 50 = .ok (.iload_n 1, 1) := by decide +kernel
theorem dX7_best_51 : decode cX7_best 51 = .ok (.aaload, 1) := by decide +kernel
theorem dX7_best_52 : decode cX7_best 52 = .ok (.iload_n 2, 1) := by decide +kernel
theorem dX7_best_53 : decode cX7_best 53 = .ok (.iaload, 1) := by decide +kernel
theorem dX7_best_54 : decode cX7_best 54 = .ok (.ireturn, 1) := by decide +kernel
theorem dX7_state_0 : decode cX7_state 0 = .ok (.aload_n 0, 1) := by decide +kernel
theorem dX7_state_1 : decode cX7_state 1 = .ok (.iload_n 1, 1) := by decide +kernel
theorem dX7_state_2 : decode cX7_state 2 = .ok (.iconst 0, 1) := by decide +kernel
theorem dX7_state_3 : decode cX7_state 3 = .ok (.aload_n 0, 1) := by decide +kernel
theorem dX7_state_4 : decode cX7_state 4 = .ok (.getfield 10, 3) := by decide +kernel
theorem dX7_state_7 : decode cX7_state 7 = .ok (.getfield 88, 3) := by decide +kernel
theorem dX7_state_10 : decode cX7_state 10 = .ok (.invokestatic 81, 3) := by decide +kernel
theorem dX7_state_13 : decode cX7_state 13 = .ok (.ifCond .eq 29, 3) := by decide +kernel
theorem dX7_state_16 : decode cX7_state 16 = .ok (.iload_n 2, 1) := by decide +kernel
theorem dX7_state_17 : decode cX7_state 17 = .ok (.iconst 0, 1) := by decide +kernel
theorem dX7_state_18 : decode cX7_state 18 = .ok (.aload_n 0, 1) := by decide +kernel
theorem dX7_state_19 : decode cX7_state 19 = .ok (.getfield 10, 3) := by decide +kernel
theorem dX7_state_22 : decode cX7_state 22 = .ok (.getfield 85, 3) := by decide +kernel
theorem dX7_state_25 : decode cX7_state 25 = .ok (.invokestatic 81, 3) := by decide +kernel
theorem dX7_state_28 : decode cX7_state 28 = .ok (.ifCond .eq 14, 3) := by decide +kernel
theorem dX7_state_31 : decode cX7_state 31 = .ok (.iload_n 3, 1) := by decide +kernel
theorem dX7_state_32 : decode cX7_state 32 = .ok (.invokestatic 133, 3) := by decide +kernel
theorem dX7_state_35 : decode cX7_state 35 = .ok (.ifCond .eq 7, 3) := by decide +kernel
theorem dX7_state_38 : decode cX7_state 38 = .ok (.iconst 1, 1) := by decide +kernel
theorem dX7_state_39 : decode cX7_state 39 = .ok (.goto 4, 3) := by decide +kernel
theorem dX7_state_42 : decode cX7_state 42 = .ok (.iconst 0, 1) := by decide +kernel
theorem dX7_state_43 : decode cX7_state 43 = .ok (.invokevirtual 136, 3) := by decide +kernel
theorem dX7_state_46 : decode cX7_state 46 = .ok (.istore 4, 2) := by decide +kernel
theorem dX7_state_48 : decode cX7_state 48 = .ok (.iload 4, 2) := by decide +kernel
theorem dX7_state_50 : decode cX7_state 50 = .ok (.ifCond .eq 11, 3) := by decide +kernel
theorem dX7_state_53 : decode cX7_state 53 = .ok (.ldc2_w 140, 3) := by decide +kernel
theorem dX7_state_56 : decode cX7_state 56 = .ok (.iload 4, 2) := by decide +kernel
theorem dX7_state_58 : decode cX7_state 58 = .ok (.i2l, 1) := by decide +kernel
theorem dX7_state_59 : decode cX7_state 59 = .ok (.ladd, 1) := by decide +kernel
theorem dX7_state_60 : decode cX7_state 60 = .ok (.lreturn, 1) := by decide +kernel
theorem dX7_state_61 : decode cX7_state 61 = .ok (.aload_n 0, 1) := by decide +kernel
theorem dX7_state_62 : decode cX7_state 62 = .ok (.invokevirtual 165, 3) := by decide +kernel
theorem dX7_state_65 : decode cX7_state 65 = .ok (.aload_n 0, 1) := by decide +kernel
theorem dX7_state_66 : decode cX7_state 66 = .ok (.getfield 23, 3) := by decide +kernel
theorem dX7_state_69 : decode cX7_state 69 = .ok (.getfield 172, 3) := by decide +kernel
theorem dX7_state_72 : decode cX7_state 72 = .ok (.iload_n 1, 1) := by decide +kernel
theorem dX7_state_73 : decode cX7_state 73 = .ok (.aaload, 1) := by decide +kernel
theorem dX7_state_74 : decode cX7_state 74 = .ok (.iload_n 2, 1) := by decide +kernel
theorem dX7_state_75 : decode cX7_state 75 = .ok (.laload, 1) := by decide +kernel
theorem dX7_state_76 : decode cX7_state 76 = .ok (.aload_n 0, 1) := by decide +kernel
theorem dX7_state_77 : decode cX7_state 77 = .ok (.getfield 10, 3) := by decide +kernel
theorem dX7_state_80 : decode cX7_state 80 = .ok (.aload_n 0, 1) := by decide +kernel
theorem dX7_state_81 : decode cX7_state 81 = .ok (.getfield 10, 3) := by decide +kernel
theorem dX7_state_84 : decode cX7_state 84 = .ok (.getfield 88, 3) := by decide +kernel
theorem dX7_state_87 : decode cX7_state 87 = .ok (.iload_n 1, 1) := by decide +kernel
theorem dX7_state_88 : decode cX7_state 88 = .ok (.isub, 1) := by decide +kernel
theorem dX7_state_89 : decode cX7_state 89 = .ok (.invokevirtual 150, 3) := by decide +kernel
theorem dX7_state_92 : decode cX7_state 92 = .ok (.iload_n 3, 1) := by decide +kernel
theorem dX7_state_93 : decode cX7_state 93 = .ok (.invokestatic 154, 3) := by decide +kernel
theorem dX7_state_96 : decode cX7_state 96 = .ok (.lreturn, 1) := by decide +kernel
theorem dX7_dip_0 : decode cX7_dip 0 = .ok (.aload_n 0, 1) := by decide +kernel
theorem dX7_dip_1 : decode cX7_dip 1 = .ok (.iconst 1, 1) := by decide +kernel
theorem dX7_dip_2 : decode cX7_dip 2 = .ok (.invokevirtual 136, 3) := by decide +kernel
theorem dX7_dip_5 : decode cX7_dip 5 = .ok (.istore_n 2, 1) := by decide +kernel
theorem dX7_dip_6 : decode cX7_dip 6 = .ok (.iload_n 2, 1) := by decide +kernel
theorem dX7_dip_7 : decode cX7_dip 7 = .ok (.ifCond .eq 5, 3) := by decide +kernel
theorem dX7_dip_10 : decode cX7_dip 10 = .ok (.iload_n 2, 1) := by decide +kernel
theorem dX7_dip_11 : decode cX7_dip 11 = .ok (.ireturn, 1) := by decide +kernel
theorem dX7_dip_12 : decode cX7_dip 12 = .ok (.aload_n 0, 1) := by decide +kernel
theorem dX7_dip_13 : decode cX7_dip 13 = .ok (.invokevirtual 165, 3) := by decide +kernel
theorem dX7_dip_16 : decode cX7_dip 16 = .ok (.iconst 0, 1) := by decide +kernel
theorem dX7_dip_17 : decode cX7_dip 17 = .ok (.istore_n 3, 1) := by decide +kernel
theorem dX7_dip_18 : decode cX7_dip 18 = .ok (.iconst 0, 1) := by decide +kernel
theorem dX7_dip_19 : decode cX7_dip 19 = .ok (.istore 4, 2) := by decide +kernel
theorem dX7_dip_21 : decode cX7_dip 21 = .ok (.iload 4, 2) := by decide +kernel
theorem dX7_dip_23 : decode cX7_dip 23 = .ok (.aload_n 0, 1) := by decide +kernel
theorem dX7_dip_24 : decode cX7_dip 24 = .ok (.getfield 10, 3) := by decide +kernel
theorem dX7_dip_27 : decode cX7_dip 27 = .ok (.getfield 88, 3) := by decide +kernel
theorem dX7_dip_30 : decode cX7_dip 30 = .ok (.if_icmp .ge 78, 3) := by decide +kernel
theorem dX7_dip_33 : decode cX7_dip 33 = .ok (.iconst 1, 1) := by decide +kernel
theorem dX7_dip_34 : decode cX7_dip 34 = .ok (.istore 5, 2) := by decide +kernel
theorem dX7_dip_36 : decode cX7_dip 36 = .ok (.iload 5, 2) := by decide +kernel
theorem dX7_dip_38 : decode cX7_dip 38 = .ok (.aload_n 0, 1) := by decide +kernel
theorem dX7_dip_39 : decode cX7_dip 39 = .ok (.getfield 10, 3) := by decide +kernel
theorem dX7_dip_42 : decode cX7_dip 42 = .ok (.getfield 85, 3) := by decide +kernel
theorem dX7_dip_45 : decode cX7_dip 45 = .ok (.if_icmp .ge 57, 3) := by decide +kernel
theorem dX7_dip_48 : decode cX7_dip 48 = .ok (.aload_n 0, 1) := by decide +kernel
theorem dX7_dip_49 : decode cX7_dip 49 = .ok (.getfield 23, 3) := by decide +kernel
theorem dX7_dip_52 : decode cX7_dip 52 = .ok (.getfield 168, 3) := by decide +kernel
theorem dX7_dip_55 : decode cX7_dip 55 = .ok (.iload 4, 2) := by decide +kernel
theorem dX7_dip_57 : decode cX7_dip 57 = .ok (.aaload, 1) := by decide +kernel
theorem dX7_dip_58 : decode cX7_dip 58 = .ok (.iload 5, 2) := by decide +kernel
theorem dX7_dip_60 : decode cX7_dip 60 = .ok (.iaload, 1) := by decide +kernel
theorem dX7_dip_61 : decode cX7_dip 61 = .ok (.aload_n 0, 1) := by decide +kernel
theorem dX7_dip_62 : decode cX7_dip 62 = .ok (.getfield 23, 3) := by decide +kernel
theorem dX7_dip_65 : decode cX7_dip 65 = .ok (.getfield 168, 3) := by decide +kernel
theorem dX7_dip_68 : decode cX7_dip 68 = .ok (.iload 4, 2) := by decide +kernel
theorem dX7_dip_70 : decode cX7_dip 70 = .ok (.aaload, 1) := by decide +kernel
theorem dX7_dip_71 : decode cX7_dip 71 = .ok (.iload 5, 2) := by decide +kernel
theorem dX7_dip_73 : decode cX7_dip 73 = .ok (.iconst 1, 1) := by decide +kernel
theorem dX7_dip_74 : decode cX7_dip 74 = .ok (.iadd, 1) := by decide +kernel
theorem dX7_dip_75 : decode cX7_dip 75 = .ok (.iaload, 1) := by decide +kernel
theorem dX7_dip_76 : decode cX7_dip 76 = .ok (.if_icmp .le 20, 3) := by decide +kernel
theorem dX7_dip_79 : decode cX7_dip 79 = .ok (.iload_n 3, 1) := by decide +kernel
theorem dX7_dip_80 : decode cX7_dip 80 = .ok (.iload_n 1, 1) := by decide +kernel
theorem dX7_dip_81 : decode cX7_dip 81 = .ok (.if_icmp .ne 12, 3) := by decide +kernel
theorem dX7_dip_84 : decode cX7_dip 84 = .ok (.bipush 100, 2) := by decide +kernel
theorem dX7_dip_86 : decode cX7_dip 86 = .ok (.iload 4, 2) := by decide +kernel
theorem dX7_dip_88 : decode cX7_dip 88 = .ok (.imul, 1) := by decide +kernel
theorem dX7_dip_89 : decode cX7_dip 89 = .ok (.iload 5, 2) := by decide +kernel
theorem dX7_dip_91 : decode cX7_dip 91 = .ok (.iadd, 1) := by decide +kernel
theorem dX7_dip_92 : decode cX7_dip 92 = .ok (.ireturn, 1) := by decide +kernel
theorem dX7_dip_93 : decode cX7_dip 93 = .ok (.iinc 3 1, 3) := by decide +kernel
theorem dX7_dip_96 : decode cX7_dip 96 = .ok (.iinc 5 1, 3) := by decide +kernel
theorem dX7_dip_99 : decode cX7_dip 99 = .ok (.goto (-63), 3) := by decide +kernel
theorem dX7_dip_102 : decode cX7_dip 102 = .ok (.iinc 4 1, 3) := by decide +kernel
theorem dX7_dip_105 : decode cX7_dip 105 = .ok (.goto (-84), 3) := by decide +kernel
theorem dX7_dip_108 : decode cX7_dip 108 = .ok (.iload_n 1, 1) := by decide +kernel
theorem dX7_dip_109 : decode cX7_dip 109 = .ok (.iconst (-1), 1) := by decide +kernel
theorem dX7_dip_110 : decode cX7_dip 110 = .ok (.if_icmp .ne 7, 3) := by decide +kernel
theorem dX7_dip_113 : decode cX7_dip 113 = .ok (.iload_n 3, 1) := by decide +kernel
theorem dX7_dip_114 : decode cX7_dip 114 = .ok (.goto 5, 3) := by decide +kernel
theorem dX7_dip_117 : decode cX7_dip 117 = .ok (.bipush (-6), 2) := by decide +kernel
theorem dX7_dip_119 : decode cX7_dip 119 = .ok (.ireturn, 1) := by decide +kernel
theorem dX7_kept_0 : decode cX7_kept 0 = .ok (.aload_n 0, 1) := by decide +kernel
theorem dX7_kept_1 : decode cX7_kept 1 = .ok (.iload_n 1, 1) := by decide +kernel
theorem dX7_kept_2 : decode cX7_kept 2 = .ok (.iconst 0, 1) := by decide +kernel
theorem dX7_kept_3 : decode cX7_kept 3 = .ok (.iconst 2, 1) := by decide +kernel
theorem dX7_kept_4 : decode cX7_kept 4 = .ok (.invokestatic 81, 3) := by decide +kernel
theorem dX7_kept_7 : decode cX7_kept 7 = .ok (.ifCond .eq 15, 3) := by decide +kernel
theorem dX7_kept_10 : decode cX7_kept 10 = .ok (.aload_n 0, 1) := by decide +kernel
theorem dX7_kept_11 : decode cX7_kept 11 = .ok (.iload_n 2, 1) := by decide +kernel
theorem dX7_kept_12 : decode cX7_kept 12 = .ok (.invokevirtual 162, 3) := by decide +kernel
theorem dX7_kept_15 : decode cX7_kept 15 = .ok (.ifCond .eq 7, 3) := by decide +kernel
theorem dX7_kept_18 : decode cX7_kept 18 = .ok (.iconst 1, 1) := by decide +kernel
theorem dX7_kept_19 : decode cX7_kept 19 = .ok (.goto 4, 3) := by decide +kernel
theorem dX7_kept_22 : decode cX7_kept 22 = .ok (.iconst 0, 1) := by decide +kernel
theorem dX7_kept_23 : decode cX7_kept 23 = .ok (.invokevirtual 136, 3) := by decide +kernel
theorem dX7_kept_26 : decode cX7_kept 26 = .ok (.istore_n 3, 1) := by decide +kernel
theorem dX7_kept_27 : decode cX7_kept 27 = .ok (.iload_n 3, 1) := by decide +kernel
theorem dX7_kept_28 : decode cX7_kept 28 = .ok (.ifCond .eq 5, 3) := by decide +kernel
theorem dX7_kept_31 : decode cX7_kept 31 = .ok (.iload_n 3, 1) := by decide +kernel
theorem dX7_kept_32 : decode cX7_kept 32 = .ok (.ireturn, 1) := by decide +kernel
theorem dX7_kept_33 : decode cX7_kept 33 = .ok (.aload_n 0, 1) := by decide +kernel
theorem dX7_kept_34 : decode cX7_kept 34 = .ok (.iload_n 1, 1) := by decide +kernel
theorem dX7_kept_35 : decode cX7_kept 35 = .ok (.invokevirtual 175, 3) := by decide +kernel
theorem dX7_kept_38 : decode cX7_kept 38 = .ok (.getfield 179, 3) := by decide +kernel
theorem dX7_kept_41 : decode cX7_kept 41 = .ok (.iload_n 2, 1) := by decide +kernel
theorem dX7_kept_42 : decode cX7_kept 42 = .ok (.iaload, 1) := by decide +kernel
theorem dX7_kept_43 : decode cX7_kept 43 = .ok (.ireturn, 1) := by decide +kernel
theorem dX7_keeps_0 : decode cX7_keeps 0 = .ok (.aload_n 0, 1) := by decide +kernel
theorem dX7_keeps_1 : decode cX7_keeps 1 = .ok (.iload_n 1, 1) := by decide +kernel
theorem dX7_keeps_2 : decode cX7_keeps 2 = .ok (.iconst 0, 1) := by decide +kernel
theorem dX7_keeps_3 : decode cX7_keeps 3 = .ok (.iconst 4, 1) := by decide +kernel
theorem dX7_keeps_4 : decode cX7_keeps 4 = .ok (.invokestatic 81, 3) := by decide +kernel
theorem dX7_keeps_7 : decode cX7_keeps 7 = .ok (.ifCond .eq 14, 3) := by decide +kernel
theorem dX7_keeps_10 : decode cX7_keeps 10 = .ok (.iload_n 2, 1) := by decide +kernel
theorem dX7_keeps_11 : decode cX7_keeps 11 = .ok (.invokestatic 133, 3) := by decide +kernel
theorem dX7_keeps_14 : decode cX7_keeps 14 = .ok (.ifCond .eq 7, 3) := by decide +kernel
theorem dX7_keeps_17 : decode cX7_keeps 17 = .ok (.iconst 1, 1) := by decide +kernel
theorem dX7_keeps_18 : decode cX7_keeps 18 = .ok (.goto 4, 3) := by decide +kernel
theorem dX7_keeps_21 : decode cX7_keeps 21 = .ok (.iconst 0, 1) := by decide +kernel
theorem dX7_keeps_22 : decode cX7_keeps 22 = .ok (.invokevirtual 136, 3) := by decide +kernel
theorem dX7_keeps_25 : decode cX7_keeps 25 = .ok (.istore_n 3, 1) := by decide +kernel
theorem dX7_keeps_26 : decode cX7_keeps 26 = .ok (.iload_n 3, 1) := by decide +kernel
theorem dX7_keeps_27 : decode cX7_keeps 27 = .ok (.ifCond .eq 10, 3) := by decide +kernel
theorem dX7_keeps_30 : decode cX7_keeps 30 = .ok (.ldc2_w 140, 3) := by decide +kernel
theorem dX7_keeps_33 : decode cX7_keeps 33 = .ok (.iload_n 3, 1) := by decide +kernel
theorem dX7_keeps_34 : decode cX7_keeps 34 = .ok (.i2l, 1) := by decide +kernel
theorem dX7_keeps_35 : decode cX7_keeps 35 = .ok (.ladd, 1) := by decide +kernel
theorem dX7_keeps_36 : decode cX7_keeps 36 = .ok (.lreturn, 1) := by decide +kernel
theorem dX7_keeps_37 : decode cX7_keeps 37 = .ok (.aload_n 0, 1) := by decide +kernel
theorem dX7_keeps_38 : decode cX7_keeps 38 = .ok (.iload_n 1, 1) := by decide +kernel
theorem dX7_keeps_39 : decode cX7_keeps 39 = .ok (.invokevirtual 182, 3) := by decide +kernel
theorem dX7_keeps_42 : decode cX7_keeps 42 = .ok (.aload_n 0, 1) := by decide +kernel
theorem dX7_keeps_43 : decode cX7_keeps 43 = .ok (.getfield 10, 3) := by decide +kernel
theorem dX7_keeps_46 : decode cX7_keeps 46 = .ok (.aload_n 0, 1) := by decide +kernel
theorem dX7_keeps_47 : decode cX7_keeps 47 = .ok (.getfield 10, 3) := by decide +kernel
theorem dX7_keeps_50 : decode cX7_keeps 50 = .ok (.getfield 88, 3) := by decide +kernel
theorem dX7_keeps_53 : decode cX7_keeps 53 = .ok (.invokevirtual 150, 3) := by decide +kernel
theorem dX7_keeps_56 : decode cX7_keeps 56 = .ok (.iload_n 2, 1) := by decide +kernel
theorem dX7_keeps_57 : decode cX7_keeps 57 = .ok (.invokestatic 154, 3) := by decide +kernel
theorem dX7_keeps_60 : decode cX7_keeps 60 = .ok (.lreturn, 1) := by decide +kernel
theorem dX7_rather_0 : decode cX7_rather 0 = .ok (.aload_n 0, 1) := by decide +kernel
theorem dX7_rather_1 : decode cX7_rather 1 = .ok (.iconst 1, 1) := by decide +kernel
theorem dX7_rather_2 : decode cX7_rather 2 = .ok (.invokevirtual 136, 3) := by decide +kernel
theorem dX7_rather_5 : decode cX7_rather 5 = .ok (.istore_n 1, 1) := by decide +kernel
theorem dX7_rather_6 : decode cX7_rather 6 = .ok (.iload_n 1, 1) := by decide +kernel
theorem dX7_rather_7 : decode cX7_rather 7 = .ok (.ifCond .eq 5, 3) := by decide +kernel
theorem dX7_rather_10 : decode cX7_rather 10 = .ok (.iload_n 1, 1) := by decide +kernel
theorem dX7_rather_11 : decode cX7_rather 11 = .ok (.ireturn, 1) := by decide +kernel
theorem dX7_rather_12 : decode cX7_rather 12 = .ok (.aload_n 0, 1) := by decide +kernel
theorem dX7_rather_13 : decode cX7_rather 13 = .ok (.invokevirtual 165, 3) := by decide +kernel
theorem dX7_rather_16 : decode cX7_rather 16 = .ok (.aload_n 0, 1) := by decide +kernel
theorem dX7_rather_17 : decode cX7_rather 17 = .ok (.invokevirtual 185, 3) := by decide +kernel
theorem dX7_rather_20 : decode cX7_rather 20 = .ok (.aload_n 0, 1) := by decide +kernel
theorem dX7_rather_21 : decode cX7_rather 21 = .ok (.getfield 27, 3) := by decide +kernel
theorem dX7_rather_24 : decode cX7_rather 24 = .ok (.aload_n 0, 1) := by decide +kernel
theorem dX7_rather_25 : decode cX7_rather 25 = .ok (.getfield 47, 3) := by decide +kernel
theorem dX7_rather_28 : decode cX7_rather 28 = .ok (.getfield 179, 3) := by decide +kernel
theorem dX7_rather_31 : decode cX7_rather 31 = .ok (.invokevirtual 188, 3) := by decide +kernel
theorem dX7_rather_34 : decode cX7_rather 34 = .ok (.aload_n 0, 1) := by decide +kernel
theorem dX7_rather_35 : decode cX7_rather 35 = .ok (.getfield 27, 3) := by decide +kernel
theorem dX7_rather_38 : decode cX7_rather 38 = .ok (.aload_n 0, 1) := by decide +kernel
theorem dX7_rather_39 : decode cX7_rather 39 = .ok (.getfield 10, 3) := by decide +kernel
theorem dX7_rather_42 : decode cX7_rather 42 = .ok (.invokevirtual 192, 3) := by decide +kernel
theorem dX7_rather_45 : decode cX7_rather 45 = .ok (.aload_n 0, 1) := by decide +kernel
theorem dX7_rather_46 : decode cX7_rather 46 = .ok (.getfield 33, 3) := by decide +kernel
theorem dX7_rather_49 : decode cX7_rather 49 = .ok (.aload_n 0, 1) := by decide +kernel
theorem dX7_rather_50 : decode cX7_rather 50 = .ok (.getfield 10, 3) := by decide +kernel
theorem dX7_rather_53 : decode cX7_rather 53 = .ok (.aload_n 0, 1) := by decide +kernel
theorem dX7_rather_54 : decode cX7_rather 54 = .ok (.getfield 47, 3) := by decide +kernel
theorem dX7_rather_57 : decode cX7_rather 57 = .ok (.getfield 179, 3) := by decide +kernel
theorem dX7_rather_60 : decode cX7_rather 60 = .ok (.iconst 0, 1) := by decide +kernel
theorem dX7_rather_61 : decode cX7_rather 61 = .ok (.invokevirtual 142, 3) := by decide +kernel
theorem dX7_rather_64 : decode cX7_rather 64 = .ok (.iconst 0, 1) := by decide +kernel
theorem dX7_rather_65 : decode cX7_rather 65 = .ok (.istore_n 2, 1) := by decide +kernel
theorem dX7_rather_66 : decode cX7_rather 66 = .ok (.iload_n 2, 1) := by decide +kernel
theorem dX7_rather_67 : decode cX7_rather 67 = .ok (.aload_n 0, 1) := by decide +kernel
theorem dX7_rather_68 : decode cX7_rather 68 = .ok (.getfield 10, 3) := by decide +kernel
theorem dX7_rather_71 : decode cX7_rather 71 = .ok (.getfield 88, 3) := by decide +kernel
theorem dX7_rather_74 : decode cX7_rather 74 = .ok (.if_icmp .ge 77, 3) := by decide +kernel
theorem dX7_rather_77 : decode cX7_rather 77 = .ok (.iconst 0, 1) := by decide +kernel
theorem dX7_rather_78 : decode cX7_rather 78 = .ok (.istore_n 3, 1) := by decide +kernel
theorem dX7_rather_79 : decode cX7_rather 79 = .ok (.iload_n 3, 1) := by decide +kernel
theorem dX7_rather_80 : decode cX7_rather 80 = .ok (.aload_n 0, 1) := by decide +kernel
theorem dX7_rather_81 : decode cX7_rather 81 = .ok (.getfield 10, 3) := by decide +kernel
theorem dX7_rather_84 : decode cX7_rather 84 = .ok (.getfield 85, 3) := by decide +kernel
theorem dX7_rather_87 : decode cX7_rather 87 = .ok (.if_icmp .gt 58, 3) := by decide +kernel
theorem dX7_rather_90 : decode cX7_rather 90 = .ok (.aload_n 0, 1) := by decide +kernel
theorem dX7_rather_91 : decode cX7_rather 91 = .ok (.getfield 33, 3) := by decide +kernel
theorem dX7_rather_94 : decode cX7_rather 94 = .ok (.getfield 158, 3) := by decide +kernel
theorem dX7_rather_97 : decode cX7_rather 97 = .ok (.iload_n 2, 1) := by decide +kernel
theorem dX7_rather_98 : decode cX7_rather 98 = .ok (.aaload, 1) := by decide +kernel
theorem dX7_rather_99 : decode cX7_rather 99 = .ok (.iload_n 3, 1) := by decide +kernel
theorem dX7_rather_100 : decode cX7_rather 100 = .ok (.laload, 1) := by decide +kernel
theorem dX7_rather_101 : decode cX7_rather 101 = .ok (.lconst 0, 1) := by decide +kernel
theorem dX7_rather_102 : decode cX7_rather 102 = .ok (.lcmp, 1) := by decide +kernel
theorem dX7_rather_103 : decode cX7_rather 103 = .ok (.ifCond .le 36, 3) := by decide +kernel
theorem dX7_rather_106 : decode cX7_rather 106 = .ok (.aload_n 0, 1) := by decide +kernel
theorem dX7_rather_107 : decode cX7_rather 107 = .ok (.getfield 23, 3) := by decide +kernel
theorem dX7_rather_110 : decode cX7_rather 110 = .ok (.getfield 172, 3) := by decide +kernel
theorem dX7_rather_113 : decode cX7_rather 113 = .ok (.iload_n 2, 1) := by decide +kernel
theorem dX7_rather_114 : decode cX7_rather 114 = .ok (.aaload, 1) := by decide +kernel
theorem dX7_rather_115 : decode cX7_rather 115 = .ok (.iload_n 3, 1) := by decide +kernel
theorem dX7_rather_116 : decode cX7_rather 116 = .ok (.laload, 1) := by decide +kernel
theorem dX7_rather_117 : decode cX7_rather 117 = .ok (.aload_n 0, 1) := by decide +kernel
theorem dX7_rather_118 : decode cX7_rather 118 = .ok (.getfield 27, 3) := by decide +kernel
theorem dX7_rather_121 : decode cX7_rather 121 = .ok (.getfield 172, 3) := by decide +kernel
theorem dX7_rather_124 : decode cX7_rather 124 = .ok (.iload_n 2, 1) := by decide +kernel
theorem dX7_rather_125 : decode cX7_rather 125 = .ok (.aaload, 1) := by decide +kernel
theorem dX7_rather_126 : decode cX7_rather 126 = .ok (.iload_n 3, 1) := by decide +kernel
theorem dX7_rather_127 : decode cX7_rather 127 = .ok (.laload, 1) := by decide +kernel
theorem dX7_rather_128 : decode cX7_rather 128 = .ok (.lcmp, 1) := by decide +kernel
theorem dX7_rather_129 : decode cX7_rather 129 = .ok (.ifCond .le 10, 3) := by decide +kernel
theorem dX7_rather_132 : decode cX7_rather 132 = .ok (.bipush 100, 2) := by decide +kernel
theorem dX7_rather_134 : decode cX7_rather 134 = .ok (.iload_n 2, 1) := by decide +kernel
theorem dX7_rather_135 : decode cX7_rather 135 = .ok (.imul, 1) := by decide +kernel
theorem dX7_rather_136 : decode cX7_rather 136 = .ok (.iload_n 3, 1) := by decide +kernel
theorem dX7_rather_137 : decode cX7_rather 137 = .ok (.iadd, 1) := by decide +kernel
theorem dX7_rather_138 : decode cX7_rather 138 = .ok (.ireturn, 1) := by decide +kernel
theorem dX7_rather_139 : decode cX7_rather 139 = .ok (.iinc 3 1, 3) := by decide +kernel
theorem dX7_rather_142 : decode cX7_rather 142 = .ok (.goto (-63), 3) := by decide +kernel
theorem dX7_rather_145 : decode cX7_rather 145 = .ok (.iinc 2 1, 3) := by decide +kernel
theorem dX7_rather_148 : decode cX7_rather 148 = .ok (.goto (-82), 3) := by decide +kernel
theorem dX7_rather_151 : decode cX7_rather 151 = .ok (.bipush (-6), 2) := by decide +kernel
theorem dX7_rather_153 : decode cX7_rather 153 = .ok (.ireturn, 1) := by decide +kernel
theorem dX7_picks_0 : decode cX7_picks 0 = .ok (.aload_n 0, 1) := by decide +kernel
theorem dX7_picks_1 : decode cX7_picks 1 = .ok (.getfield 10, 3) := by decide +kernel
theorem dX7_picks_4 : decode cX7_picks 4 = .ok (.iload_n 1, 1) := by decide +kernel
theorem dX7_picks_5 : decode cX7_picks 5 = .ok (.invokevirtual 118, 3) := by decide +kernel
theorem dX7_picks_8 : decode cX7_picks 8 = .ok (.ifCond .ne 5, 3) := by decide +kernel
theorem dX7_picks_11 : decode cX7_picks 11 = .ok (.iconst (-1), 1) := by decide +kernel
theorem dX7_picks_12 : decode cX7_picks 12 = .ok (.ireturn, 1) := by decide +kernel
theorem dX7_picks_13 : decode cX7_picks 13 = .ok (.aload_n 0, 1) := by decide +kernel
theorem dX7_picks_14 : decode cX7_picks 14 = .ok (.aload_n 0, 1) := by decide +kernel
theorem dX7_picks_15 : decode cX7_picks 15 = .ok (.iload_n 2, 1) := by decide +kernel
theorem dX7_picks_16 : decode cX7_picks 16 = .ok (.invokevirtual 162, 3) := by decide +kernel
theorem dX7_picks_19 : decode cX7_picks 19 = .ok (.invokevirtual 136, 3) := by decide +kernel
theorem dX7_picks_22 : decode cX7_picks 22 = .ok (.istore_n 3, 1) := by decide +kernel
theorem dX7_picks_23 : decode cX7_picks 23 = .ok (.iload_n 3, 1) := by decide +kernel
theorem dX7_picks_24 : decode cX7_picks 24 = .ok (.ifCond .eq 5, 3) := by decide +kernel
theorem dX7_picks_27 : decode cX7_picks 27 = .ok (.iload_n 3, 1) := by decide +kernel
theorem dX7_picks_28 : decode cX7_picks 28 = .ok (.ireturn, 1) := by decide +kernel
theorem dX7_picks_29 : decode cX7_picks 29 = .ok (.aload_n 0, 1) := by decide +kernel
theorem dX7_picks_30 : decode cX7_picks 30 = .ok (.getfield 10, 3) := by decide +kernel
theorem dX7_picks_33 : decode cX7_picks 33 = .ok (.iload_n 1, 1) := by decide +kernel
theorem dX7_picks_34 : decode cX7_picks 34 = .ok (.invokevirtual 196, 3) := by decide +kernel
theorem dX7_picks_37 : decode cX7_picks 37 = .ok (.ifCond .eq 19, 3) := by decide +kernel
theorem dX7_picks_40 : decode cX7_picks 40 = .ok (.aload_n 0, 1) := by decide +kernel
theorem dX7_picks_41 : decode cX7_picks 41 = .ok (.getfield 10, 3) := by decide +kernel
theorem dX7_picks_44 : decode cX7_picks 44 = .ok (.iload_n 1, 1) := by decide +kernel
theorem dX7_picks_45 : decode cX7_picks 45 = .ok (.iload_n 2, 1) := by decide +kernel
theorem dX7_picks_46 : decode cX7_picks 46 = .ok (.aload_n 0, 1) := by decide +kernel
theorem dX7_picks_47 : decode cX7_picks 47 = .ok (.getfield 16, 3) := by decide +kernel
theorem dX7_picks_50 : decode cX7_picks 50 = .ok (.invokevirtual 199, 3) := by decide +kernel
theorem dX7_picks_53 : decode cX7_picks 53 = .ok (.goto 5, 3) := by decide +kernel
theorem dX7_picks_56 : decode cX7_picks 56 = .ok (.bipush (-5), 2) := by decide +kernel
theorem dX7_picks_58 : decode cX7_picks 58 = .ok (.ireturn, 1) := by decide +kernel
theorem dX7_made_0 : decode cX7_made 0 = .ok (.aload_n 0, 1) := by decide +kernel
theorem dX7_made_1 : decode cX7_made 1 = .ok (.iload_n 1, 1) := by decide +kernel
theorem dX7_made_2 : decode cX7_made 2 = .ok (.iconst 0, 1) := by decide +kernel
theorem dX7_made_3 : decode cX7_made 3 = .ok (.bipush 99, 2) := by decide +kernel
theorem dX7_made_5 : decode cX7_made 5 = .ok (.invokestatic 81, 3) := by decide +kernel
theorem dX7_made_8 : decode cX7_made 8 = .ok (.invokevirtual 136, 3) := by decide +kernel
theorem dX7_made_11 : decode cX7_made 11 = .ok (.istore_n 2, 1) := by decide +kernel
theorem dX7_made_12 : decode cX7_made 12 = .ok (.iload_n 2, 1) := by decide +kernel
theorem dX7_made_13 : decode cX7_made 13 = .ok (.ifCond .eq 5, 3) := by decide +kernel
theorem dX7_made_16 : decode cX7_made 16 = .ok (.iload_n 2, 1) := by decide +kernel
theorem dX7_made_17 : decode cX7_made 17 = .ok (.ireturn, 1) := by decide +kernel
theorem dX7_made_18 : decode cX7_made 18 = .ok (.aload_n 0, 1) := by decide +kernel
theorem dX7_made_19 : decode cX7_made 19 = .ok (.invokevirtual 165, 3) := by decide +kernel
theorem dX7_made_22 : decode cX7_made 22 = .ok (.iload_n 1, 1) := by decide +kernel
theorem dX7_made_23 : decode cX7_made 23 = .ok (.i2l, 1) := by decide +kernel
theorem dX7_made_24 : decode cX7_made 24 = .ok (.aload_n 0, 1) := by decide +kernel
theorem dX7_made_25 : decode cX7_made 25 = .ok (.getfield 10, 3) := by decide +kernel
theorem dX7_made_28 : decode cX7_made 28 = .ok (.aload_n 0, 1) := by decide +kernel
theorem dX7_made_29 : decode cX7_made 29 = .ok (.getfield 10, 3) := by decide +kernel
theorem dX7_made_32 : decode cX7_made 32 = .ok (.getfield 88, 3) := by decide +kernel
theorem dX7_made_35 : decode cX7_made 35 = .ok (.invokevirtual 150, 3) := by decide +kernel
theorem dX7_made_38 : decode cX7_made 38 = .ok (.lmul, 1) := by decide +kernel
theorem dX7_made_39 : decode cX7_made 39 = .ok (.lstore_n 3, 1) := by decide +kernel
theorem dX7_made_40 : decode cX7_made 40 = .ok (.iconst 0, 1) := by decide +kernel
theorem dX7_made_41 : decode cX7_made 41 = .ok (.istore 5, 2) := by decide +kernel
theorem dX7_made_43 : decode cX7_made 43 = .ok (.iconst 1, 1) := by decide +kernel
theorem dX7_made_44 : decode cX7_made 44 = .ok (.istore 6, 2) := by decide +kernel
theorem dX7_made_46 : decode cX7_made 46 = .ok (.iload 6, 2) := by decide +kernel
theorem dX7_made_48 : decode cX7_made 48 = .ok (.bipush 12, 2) := by decide +kernel
theorem dX7_made_50 : decode cX7_made 50 = .ok (.if_icmp .gt 53, 3) := by decide +kernel
theorem dX7_made_53 : decode cX7_made 53 = .ok (.aload_n 0, 1) := by decide +kernel
theorem dX7_made_54 : decode cX7_made 54 = .ok (.getfield 23, 3) := by decide +kernel
theorem dX7_made_57 : decode cX7_made 57 = .ok (.getfield 172, 3) := by decide +kernel
theorem dX7_made_60 : decode cX7_made 60 = .ok (.iconst 0, 1) := by decide +kernel
theorem dX7_made_61 : decode cX7_made 61 = .ok (.aaload, 1) := by decide +kernel
theorem dX7_made_62 : decode cX7_made 62 = .ok (.iload 6, 2) := by decide +kernel
theorem dX7_made_64 : decode cX7_made 64 = .ok (.laload, 1) := by decide +kernel
theorem dX7_made_65 : decode cX7_made 65 = .ok (.lload_n 3, 1) := by decide +kernel
theorem dX7_made_66 : decode cX7_made 66 = .ok (.iload 6, 2) := by decide +kernel
theorem dX7_made_68 : decode cX7_made 68 = .ok (.i2l, 1) := by decide +kernel
theorem dX7_made_69 : decode cX7_made 69 = .ok (.lmul, 1) := by decide +kernel
theorem dX7_made_70 : decode cX7_made 70 = .ok (.lsub, 1) := by decide +kernel
theorem dX7_made_71 : decode cX7_made 71 = .ok (.aload_n 0, 1) := by decide +kernel
theorem dX7_made_72 : decode cX7_made 72 = .ok (.getfield 23, 3) := by decide +kernel
theorem dX7_made_75 : decode cX7_made 75 = .ok (.getfield 172, 3) := by decide +kernel
theorem dX7_made_78 : decode cX7_made 78 = .ok (.iconst 0, 1) := by decide +kernel
theorem dX7_made_79 : decode cX7_made 79 = .ok (.aaload, 1) := by decide +kernel
theorem dX7_made_80 : decode cX7_made 80 = .ok (.iload 5, 2) := by decide +kernel
theorem dX7_made_82 : decode cX7_made 82 = .ok (.laload, 1) := by decide +kernel
theorem dX7_made_83 : decode cX7_made 83 = .ok (.lload_n 3, 1) := by decide +kernel
theorem dX7_made_84 : decode cX7_made 84 = .ok (.iload 5, 2) := by decide +kernel
theorem dX7_made_86 : decode cX7_made 86 = .ok (.i2l, 1) := by decide +kernel
theorem dX7_made_87 : decode cX7_made 87 = .ok (.lmul, 1) := by decide +kernel
theorem dX7_made_88 : decode cX7_made 88 = .ok (.lsub, 1) := by decide +kernel
theorem dX7_made_89 : decode cX7_made 89 = .ok (.lcmp, 1) := by decide +kernel
theorem dX7_made_90 : decode cX7_made 90 = .ok (.ifCond .le 7, 3) := by decide +kernel
theorem dX7_made_93 : decode cX7_made 93 = .ok (.iload 6, 2) := by decide +kernel
theorem dX7_made_95 : decode cX7_made 95 = .ok (.istore 5, 2) := by decide +kernel
theorem dX7_made_97 : decode cX7_made 97 = .ok (.iinc 6 1, 3) := by decide +kernel
theorem dX7_made_100 : decode cX7_made 100 = .ok (.goto (-54), 3) := by decide +kernel
theorem dX7_made_103 : decode cX7_made 103 = .ok (.iload 5, 2) := by decide +kernel
theorem dX7_made_105 : decode cX7_made 105 = .ok (.ireturn, 1) := by decide +kernel
theorem dX7_say_0 : decode cX7_say 0 = .ok (.iload_n 1, 1) := by decide +kernel
theorem dX7_say_1 : decode cX7_say 1 = .ok (.bipush 33, 2) := by decide +kernel
theorem dX7_say_3 : decode cX7_say 3 = .ok (.bipush 126, 2) := by decide +kernel
theorem dX7_say_5 : decode cX7_say 5 = .ok (.invokestatic 81, 3) := by decide +kernel
theorem dX7_say_8 : decode cX7_say 8 = .ok (.ifCond .ne 6, 3) := by decide +kernel
theorem dX7_say_11 : decode cX7_say 11 = .ok (.bipush (-2), 2) := by decide +kernel
theorem dX7_say_13 : decode cX7_say 13 = .ok (.ireturn, 1) := by decide +kernel
theorem dX7_say_14 : decode cX7_say 14 = .ok (.aload_n 0, 1) := by decide +kernel
theorem dX7_say_15 : decode cX7_say 15 = .ok (.getfield 60, 3) := by decide +kernel
theorem dX7_say_18 : decode cX7_say 18 = .ok (.getfield 203, 3) := by decide +kernel
theorem dX7_say_21 : decode cX7_say 21 = .ok (.bipush 40, 2) := by decide +kernel
theorem dX7_say_23 : decode cX7_say 23 = .ok (.if_icmp .lt 6, 3) := by decide +kernel
theorem dX7_say_26 : decode cX7_say 26 = .ok (.bipush (-4), 2) := by decide +kernel
theorem dX7_say_28 : decode cX7_say 28 = .ok (.ireturn, 1) := by decide +kernel
theorem dX7_say_29 : decode cX7_say 29 = .ok (.aload_n 0, 1) := by decide +kernel
theorem dX7_say_30 : decode cX7_say 30 = .ok (.getfield 60, 3) := by decide +kernel
theorem dX7_say_33 : decode cX7_say 33 = .ok (.getfield 206, 3) := by decide +kernel
theorem dX7_say_36 : decode cX7_say 36 = .ok (.aload_n 0, 1) := by decide +kernel
theorem dX7_say_37 : decode cX7_say 37 = .ok (.getfield 60, 3) := by decide +kernel
theorem dX7_say_40 : decode cX7_say 40 = .ok (.getfield 203, 3) := by decide +kernel
theorem dX7_say_43 : decode cX7_say 43 = .ok (.iload_n 1, 1) := by decide +kernel
theorem dX7_say_44 : decode cX7_say 44 = .ok (.iastore, 1) := by decide +kernel
theorem dX7_say_45 : decode cX7_say 45 = .ok (.aload_n 0, 1) := by decide +kernel
theorem dX7_say_46 : decode cX7_say 46 = .ok (.getfield 60, 3) := by decide +kernel
theorem dX7_say_49 : decode cX7_say 49 = .ok (.dup, 1) := by decide +kernel
theorem dX7_say_50 : decode cX7_say 50 = .ok (.getfield 203, 3) := by decide +kernel
theorem dX7_say_53 : decode cX7_say 53 = .ok (.iconst 1, 1) := by decide +kernel
theorem dX7_say_54 : decode cX7_say 54 = .ok (.iadd, 1) := by decide +kernel
theorem dX7_say_55 : decode cX7_say 55 = .ok (.putfield 203, 3) := by decide +kernel
theorem dX7_say_58 : decode cX7_say 58 = .ok (.aload_n 0, 1) := by decide +kernel
theorem dX7_say_59 : decode cX7_say 59 = .ok (.getfield 60, 3) := by decide +kernel
theorem dX7_say_62 : decode cX7_say 62 = .ok (.getfield 203, 3) := by decide +kernel
theorem dX7_say_65 : decode cX7_say 65 = .ok (.ireturn, 1) := by decide +kernel
theorem dX7_wipe_0 : decode cX7_wipe 0 = .ok (.aload_n 0, 1) := by decide +kernel
theorem dX7_wipe_1 : decode cX7_wipe 1 = .ok (.getfield 60, 3) := by decide +kernel
theorem dX7_wipe_4 : decode cX7_wipe 4 = .ok (.getfield 203, 3) := by decide +kernel
theorem dX7_wipe_7 : decode cX7_wipe 7 = .ok (.istore_n 1, 1) := by decide +kernel
theorem dX7_wipe_8 : decode cX7_wipe 8 = .ok (.aload_n 0, 1) := by decide +kernel
theorem dX7_wipe_9 : decode cX7_wipe 9 = .ok (.getfield 60, 3) := by decide +kernel
theorem dX7_wipe_12 : decode cX7_wipe 12 = .ok (.iconst 0, 1) := by decide +kernel
theorem dX7_wipe_13 : decode cX7_wipe 13 = .ok (.putfield 203, 3) := by decide +kernel
theorem dX7_wipe_16 : decode cX7_wipe 16 = .ok (.iload_n 1, 1) := by decide +kernel
theorem dX7_wipe_17 : decode cX7_wipe 17 = .ok (.ireturn, 1) := by decide +kernel
theorem dX7_fault_0 : decode cX7_fault 0 = .ok (.aload_n 0, 1) := by decide +kernel
theorem dX7_fault_1 : decode cX7_fault 1 = .ok (.getfield 60, 3) := by decide +kernel
theorem dX7_fault_4 : decode cX7_fault 4 = .ok (.invokevirtual 209, 3) := by decide +kernel
theorem dX7_fault_7 : decode cX7_fault 7 = .ok (.ireturn, 1) := by decide +kernel
theorem dX7_rule_0 : decode cX7_rule 0 = .ok (.aload_n 0, 1) := by decide +kernel
theorem dX7_rule_1 : decode cX7_rule 1 = .ok (.getfield 60, 3) := by decide +kernel
theorem dX7_rule_4 : decode cX7_rule 4 = .ok (.invokevirtual 209, 3) := by decide +kernel
theorem dX7_rule_7 : decode cX7_rule 7 = .ok (.bipush (-6), 2) := by decide +kernel
theorem dX7_rule_9 : decode cX7_rule 9 = .ok (.if_icmp .eq 6, 3) := by decide +kernel
theorem dX7_rule_12 : decode cX7_rule 12 = .ok (.bipush (-5), 2) := by decide +kernel
theorem dX7_rule_14 : decode cX7_rule 14 = .ok (.ireturn, 1) := by decide +kernel
theorem dX7_rule_15 : decode cX7_rule 15 = .ok (.aload_n 0, 1) := by decide +kernel
theorem dX7_rule_16 : decode cX7_rule 16 = .ok (.getfield 67, 3) := by decide +kernel
theorem dX7_rule_19 : decode cX7_rule 19 = .ok (.aload_n 0, 1) := by decide +kernel
theorem dX7_rule_20 : decode cX7_rule 20 = .ok (.getfield 60, 3) := by decide +kernel
theorem dX7_rule_23 : decode cX7_rule 23 = .ok (.invokevirtual 213, 3) := by decide +kernel
theorem dX7_rule_26 : decode cX7_rule 26 = .ok (.aload_n 0, 1) := by decide +kernel
theorem dX7_rule_27 : decode cX7_rule 27 = .ok (.getfield 60, 3) := by decide +kernel
theorem dX7_rule_30 : decode cX7_rule 30 = .ok (.iconst 0, 1) := by decide +kernel
theorem dX7_rule_31 : decode cX7_rule 31 = .ok (.putfield 203, 3) := by decide +kernel
theorem dX7_rule_34 : decode cX7_rule 34 = .ok (.aload_n 0, 1) := by decide +kernel
theorem dX7_rule_35 : decode cX7_rule 35 = .ok (.getfield 67, 3) := by decide +kernel
theorem dX7_rule_38 : decode cX7_rule 38 = .ok (.getfield 217, 3) := by decide +kernel
theorem dX7_rule_41 : decode cX7_rule 41 = .ok (.ireturn, 1) := by decide +kernel
theorem dX7_asks_0 : decode cX7_asks 0 = .ok (.aload_n 0, 1) := by decide +kernel
theorem dX7_asks_1 : decode cX7_asks 1 = .ok (.iload_n 1, 1) := by decide +kernel
theorem dX7_asks_2 : decode cX7_asks 2 = .ok (.iconst 0, 1) := by decide +kernel
theorem dX7_asks_3 : decode cX7_asks 3 = .ok (.iconst 5, 1) := by decide +kernel
theorem dX7_asks_4 : decode cX7_asks 4 = .ok (.invokestatic 81, 3) := by decide +kernel
theorem dX7_asks_7 : decode cX7_asks 7 = .ok (.ifCond .eq 17, 3) := by decide +kernel
theorem dX7_asks_10 : decode cX7_asks 10 = .ok (.iload_n 2, 1) := by decide +kernel
theorem dX7_asks_11 : decode cX7_asks 11 = .ok (.iconst 0, 1) := by decide +kernel
theorem dX7_asks_12 : decode cX7_asks 12 = .ok (.bipush 12, 2) := by decide +kernel
theorem dX7_asks_14 : decode cX7_asks 14 = .ok (.invokestatic 81, 3) := by decide +kernel
theorem dX7_asks_17 : decode cX7_asks 17 = .ok (.ifCond .eq 7, 3) := by decide +kernel
theorem dX7_asks_20 : decode cX7_asks 20 = .ok (.iconst 1, 1) := by decide +kernel
theorem dX7_asks_21 : decode cX7_asks 21 = .ok (.goto 4, 3) := by decide +kernel
theorem dX7_asks_24 : decode cX7_asks 24 = .ok (.iconst 0, 1) := by decide +kernel
theorem dX7_asks_25 : decode cX7_asks 25 = .ok (.invokevirtual 220, 3) := by decide +kernel
theorem dX7_asks_28 : decode cX7_asks 28 = .ok (.istore_n 3, 1) := by decide +kernel
theorem dX7_asks_29 : decode cX7_asks 29 = .ok (.iload_n 3, 1) := by decide +kernel
theorem dX7_asks_30 : decode cX7_asks 30 = .ok (.ifCond .eq 7, 3) := by decide +kernel
theorem dX7_asks_33 : decode cX7_asks 33 = .ok (.iload_n 3, 1) := by decide +kernel
theorem dX7_asks_34 : decode cX7_asks 34 = .ok (.goto 19, 3) := by decide +kernel
theorem dX7_asks_37 : decode cX7_asks 37 = .ok (.aload_n 0, 1) := by decide +kernel
theorem dX7_asks_38 : decode cX7_asks 38 = .ok (.getfield 67, 3) := by decide +kernel
theorem dX7_asks_41 : decode cX7_asks 41 = .ok (.iload_n 1, 1) := by decide +kernel
theorem dX7_asks_42 : decode cX7_asks 42 = .ok (.iload_n 2, 1) := by decide +kernel
theorem dX7_asks_43 : decode cX7_asks 43 = .ok (.aload_n 0, 1) := by decide +kernel
theorem dX7_asks_44 : decode cX7_asks 44 = .ok (.getfield 10, 3) := by decide +kernel
theorem dX7_asks_47 : decode cX7_asks 47 = .ok (.getfield 97, 3) := by decide +kernel
theorem dX7_asks_50 : decode cX7_asks 50 = .ok (.invokevirtual 223, 3) := by decide +kernel
theorem dX7_asks_53 : decode cX7_asks 53 = .ok (.ireturn, 1) := by decide +kernel
theorem dX7_boy_0 : decode cX7_boy 0 = .ok (.aload_n 0, 1) := by decide +kernel
theorem dX7_boy_1 : decode cX7_boy 1 = .ok (.iload_n 1, 1) := by decide +kernel
theorem dX7_boy_2 : decode cX7_boy 2 = .ok (.invokestatic 133, 3) := by decide +kernel
theorem dX7_boy_5 : decode cX7_boy 5 = .ok (.invokevirtual 220, 3) := by decide +kernel
theorem dX7_boy_8 : decode cX7_boy 8 = .ok (.istore_n 2, 1) := by decide +kernel
theorem dX7_boy_9 : decode cX7_boy 9 = .ok (.iload_n 2, 1) := by decide +kernel
theorem dX7_boy_10 : decode cX7_boy 10 = .ok (.ifCond .eq 10, 3) := by decide +kernel
theorem dX7_boy_13 : decode cX7_boy 13 = .ok (.ldc2_w 140, 3) := by decide +kernel
theorem dX7_boy_16 : decode cX7_boy 16 = .ok (.iload_n 2, 1) := by decide +kernel
theorem dX7_boy_17 : decode cX7_boy 17 = .ok (.i2l, 1) := by decide +kernel
theorem dX7_boy_18 : decode cX7_boy 18 = .ok (.ladd, 1) := by decide +kernel
theorem dX7_boy_19 : decode cX7_boy 19 = .ok (.lreturn, 1) := by decide +kernel
theorem dX7_boy_20 : decode cX7_boy 20 = .ok (.aload_n 0, 1) := by decide +kernel
theorem dX7_boy_21 : decode cX7_boy 21 = .ok (.invokevirtual 227, 3) := by decide +kernel
theorem dX7_boy_24 : decode cX7_boy 24 = .ok (.aload_n 0, 1) := by decide +kernel
theorem dX7_boy_25 : decode cX7_boy 25 = .ok (.getfield 27, 3) := by decide +kernel
theorem dX7_boy_28 : decode cX7_boy 28 = .ok (.getfield 172, 3) := by decide +kernel
theorem dX7_boy_31 : decode cX7_boy 31 = .ok (.iconst 0, 1) := by decide +kernel
theorem dX7_boy_32 : decode cX7_boy 32 = .ok (.aaload, 1) := by decide +kernel
theorem dX7_boy_33 : decode cX7_boy 33 = .ok (.aload_n 0, 1) := by decide +kernel
theorem dX7_boy_34 : decode cX7_boy 34 = .ok (.getfield 10, 3) := by decide +kernel
theorem dX7_boy_37 : decode cX7_boy 37 = .ok (.getfield 85, 3) := by decide +kernel
theorem dX7_boy_40 : decode cX7_boy 40 = .ok (.laload, 1) := by decide +kernel
theorem dX7_boy_41 : decode cX7_boy 41 = .ok (.aload_n 0, 1) := by decide +kernel
theorem dX7_boy_42 : decode cX7_boy 42 = .ok (.getfield 10, 3) := by decide +kernel
theorem dX7_boy_45 : decode cX7_boy 45 = .ok (.aload_n 0, 1) := by decide +kernel
theorem dX7_boy_46 : decode cX7_boy 46 = .ok (.getfield 10, 3) := by decide +kernel
theorem dX7_boy_49 : decode cX7_boy 49 = .ok (.getfield 88, 3) := by decide +kernel
theorem dX7_boy_52 : decode cX7_boy 52 = .ok (.invokevirtual 150, 3) := by decide +kernel
theorem dX7_boy_55 : decode cX7_boy 55 = .ok (.iload_n 1, 1) := by decide +kernel
theorem dX7_boy_56 : decode cX7_boy 56 = .ok (.invokestatic 154, 3) := by decide +kernel
theorem dX7_boy_59 : decode cX7_boy 59 = .ok (.lreturn, 1) := by decide +kernel
theorem dX7_worst_0 : decode cX7_worst 0 = .ok (.aload_n 0, 1) := by decide +kernel
theorem dX7_worst_1 : decode cX7_worst 1 = .ok (.iconst 1, 1) := by decide +kernel
theorem dX7_worst_2 : decode cX7_worst 2 = .ok (.invokevirtual 220, 3) := by decide +kernel
theorem dX7_worst_5 : decode cX7_worst 5 = .ok (.istore_n 1, 1) := by decide +kernel
theorem dX7_worst_6 : decode cX7_worst 6 = .ok (.iload_n 1, 1) := by decide +kernel
theorem dX7_worst_7 : decode cX7_worst 7 = .ok (.ifCond .eq 5, 3) := by decide +kernel
theorem dX7_worst_10 : decode cX7_worst 10 = .ok (.iload_n 1, 1) := by decide +kernel
theorem dX7_worst_11 : decode cX7_worst 11 = .ok (.ireturn, 1) := by decide +kernel
theorem dX7_worst_12 : decode cX7_worst 12 = .ok (.aload_n 0, 1) := by decide +kernel
theorem dX7_worst_13 : decode cX7_worst 13 = .ok (.invokevirtual 165, 3) := by decide +kernel
theorem dX7_worst_16 : decode cX7_worst 16 = .ok (.aload_n 0, 1) := by decide +kernel
theorem dX7_worst_17 : decode cX7_worst 17 = .ok (.invokevirtual 227, 3) := by decide +kernel
theorem dX7_worst_20 : decode cX7_worst 20 = .ok (.iconst 1, 1) := by decide +kernel
theorem dX7_worst_21 : decode cX7_worst 21 = .ok (.istore_n 2, 1) := by decide +kernel
theorem dX7_worst_22 : decode cX7_worst 22 = .ok (.aload_n 0, 1) := by decide +kernel
theorem dX7_worst_23 : decode cX7_worst 23 = .ok (.getfield 23, 3) := by decide +kernel
theorem dX7_worst_26 : decode cX7_worst 26 = .ok (.getfield 172, 3) := by decide +kernel
theorem dX7_worst_29 : decode cX7_worst 29 = .ok (.iconst 0, 1) := by decide +kernel
theorem dX7_worst_30 : decode cX7_worst 30 = .ok (.aaload, 1) := by decide +kernel
theorem dX7_worst_31 : decode cX7_worst 31 = .ok (.iconst 1, 1) := by decide +kernel
theorem dX7_worst_32 : decode cX7_worst 32 = .ok (.laload, 1) := by decide +kernel
theorem dX7_worst_33 : decode cX7_worst 33 = .ok (.aload_n 0, 1) := by decide +kernel
theorem dX7_worst_34 : decode cX7_worst 34 = .ok (.getfield 27, 3) := by decide +kernel
theorem dX7_worst_37 : decode cX7_worst 37 = .ok (.getfield 172, 3) := by decide +kernel
theorem dX7_worst_40 : decode cX7_worst 40 = .ok (.iconst 0, 1) := by decide +kernel
theorem dX7_worst_41 : decode cX7_worst 41 = .ok (.aaload, 1) := by decide +kernel
theorem dX7_worst_42 : decode cX7_worst 42 = .ok (.iconst 1, 1) := by decide +kernel
theorem dX7_worst_43 : decode cX7_worst 43 = .ok (.laload, 1) := by decide +kernel
theorem dX7_worst_44 : decode cX7_worst 44 = .ok (.lsub, 1) := by decide +kernel
theorem dX7_worst_45 : decode cX7_worst 45 = .ok (.lstore_n 3, 1) := by decide +kernel
theorem dX7_worst_46 : decode cX7_worst 46 = .ok (.iconst 2, 1) := by decide +kernel
theorem dX7_worst_47 : decode cX7_worst 47 = .ok (.istore 5, 2) := by decide +kernel
theorem dX7_worst_49 : decode cX7_worst 49 = .ok (.iload 5, 2) := by decide +kernel
theorem dX7_worst_51 : decode cX7_worst 51 = .ok (.bipush 12, 2) := by decide +kernel
theorem dX7_worst_53 : decode cX7_worst 53 = .ok (.if_icmp .gt 49, 3) := by decide +kernel
theorem dX7_worst_56 : decode cX7_worst 56 = .ok (.aload_n 0, 1) := by decide +kernel
theorem dX7_worst_57 : decode cX7_worst 57 = .ok (.getfield 23, 3) := by decide +kernel
theorem dX7_worst_60 : decode cX7_worst 60 = .ok (.getfield 172, 3) := by decide +kernel
theorem dX7_worst_63 : decode cX7_worst 63 = .ok (.iconst 0, 1) := by decide +kernel
theorem dX7_worst_64 : decode cX7_worst 64 = .ok (.aaload, 1) := by decide +kernel
theorem dX7_worst_65 : decode cX7_worst 65 = .ok (.iload 5, 2) := by decide +kernel
theorem dX7_worst_67 : decode cX7_worst 67 = .ok (.laload, 1) := by decide +kernel
theorem dX7_worst_68 : decode cX7_worst 68 = .ok (.aload_n 0, 1) := by decide +kernel
theorem dX7_worst_69 : decode cX7_worst 69 = .ok (.getfield 27, 3) := by decide +kernel
theorem dX7_worst_72 : decode cX7_worst 72 = .ok (.getfield 172, 3) := by decide +kernel
theorem dX7_worst_75 : decode cX7_worst 75 = .ok (.iconst 0, 1) := by decide +kernel
theorem dX7_worst_76 : decode cX7_worst 76 = .ok (.aaload, 1) := by decide +kernel
theorem dX7_worst_77 : decode cX7_worst 77 = .ok (.iload 5, 2) := by decide +kernel
theorem dX7_worst_79 : decode cX7_worst 79 = .ok (.laload, 1) := by decide +kernel
theorem dX7_worst_80 : decode cX7_worst 80 = .ok (.lsub, 1) := by decide +kernel
theorem dX7_worst_81 : decode cX7_worst 81 = .ok (.lstore 6, 2) := by decide +kernel
theorem dX7_worst_83 : decode cX7_worst 83 = .ok (.lload 6, 2) := by decide +kernel
theorem dX7_worst_85 : decode cX7_worst 85 = .ok (.lload_n 3, 1) := by decide +kernel
theorem dX7_worst_86 : decode cX7_worst 86 = .ok (.lcmp, 1) := by decide +kernel
theorem dX7_worst_87 : decode cX7_worst 87 = .ok (.ifCond .le 9, 3) := by decide +kernel
theorem dX7_worst_90 : decode cX7_worst 90 = .ok (.lload 6, 2) := by decide +kernel
theorem dX7_worst_92 : decode cX7_worst 92 = .ok (.lstore_n 3, 1) := by decide +kernel
theorem dX7_worst_93 : decode cX7_worst 93 = .ok (.iload 5, 2) := by decide +kernel
theorem dX7_worst_95 : decode cX7_worst 95 = .ok (.istore_n 2, 1) := by decide +kernel
theorem dX7_worst_96 : decode cX7_worst 96 = .ok (.iinc 5 1, 3) := by decide +kernel
theorem dX7_worst_99 : decode cX7_worst 99 = .ok (.goto (-50), 3) := by decide +kernel
theorem dX7_worst_102 : decode cX7_worst 102 = .ok (.iload_n 2, 1) := by decide +kernel
theorem dX7_worst_103 : decode cX7_worst 103 = .ok (.ireturn, 1) := by decide +kernel
theorem dX7_edge_0 : decode cX7_edge 0 = .ok (.aload_n 0, 1) := by decide +kernel
theorem dX7_edge_1 : decode cX7_edge 1 = .ok (.getfield 10, 3) := by decide +kernel
theorem dX7_edge_4 : decode cX7_edge 4 = .ok (.iload_n 1, 1) := by decide +kernel
theorem dX7_edge_5 : decode cX7_edge 5 = .ok (.invokevirtual 118, 3) := by decide +kernel
theorem dX7_edge_8 : decode cX7_edge 8 = .ok (.ifCond .ne 5, 3) := by decide +kernel
theorem dX7_edge_11 : decode cX7_edge 11 = .ok (.iconst (-1), 1) := by decide +kernel
theorem dX7_edge_12 : decode cX7_edge 12 = .ok (.ireturn, 1) := by decide +kernel
theorem dX7_edge_13 : decode cX7_edge 13 = .ok (.aload_n 0, 1) := by decide +kernel
theorem dX7_edge_14 : decode cX7_edge 14 = .ok (.getfield 10, 3) := by decide +kernel
theorem dX7_edge_17 : decode cX7_edge 17 = .ok (.getfield 97, 3) := by decide +kernel
theorem dX7_edge_20 : decode cX7_edge 20 = .ok (.ifCond .eq 13, 3) := by decide +kernel
theorem dX7_edge_23 : decode cX7_edge 23 = .ok (.aload_n 0, 1) := by decide +kernel
theorem dX7_edge_24 : decode cX7_edge 24 = .ok (.getfield 10, 3) := by decide +kernel
theorem dX7_edge_27 : decode cX7_edge 27 = .ok (.getfield 85, 3) := by decide +kernel
theorem dX7_edge_30 : decode cX7_edge 30 = .ok (.ifCond .ne 6, 3) := by decide +kernel
theorem dX7_edge_33 : decode cX7_edge 33 = .ok (.bipush (-3), 2) := by decide +kernel
theorem dX7_edge_35 : decode cX7_edge 35 = .ok (.ireturn, 1) := by decide +kernel
theorem dX7_edge_36 : decode cX7_edge 36 = .ok (.aload_n 0, 1) := by decide +kernel
theorem dX7_edge_37 : decode cX7_edge 37 = .ok (.getfield 10, 3) := by decide +kernel
theorem dX7_edge_40 : decode cX7_edge 40 = .ok (.getfield 106, 3) := by decide +kernel
theorem dX7_edge_43 : decode cX7_edge 43 = .ok (.iload_n 1, 1) := by decide +kernel
theorem dX7_edge_44 : decode cX7_edge 44 = .ok (.iaload, 1) := by decide +kernel
theorem dX7_edge_45 : decode cX7_edge 45 = .ok (.istore_n 2, 1) := by decide +kernel
theorem dX7_edge_46 : decode cX7_edge 46 = .ok (.iconst 1, 1) := by decide +kernel
theorem dX7_edge_47 : decode cX7_edge 47 = .ok (.istore_n 3, 1) := by decide +kernel
theorem dX7_edge_48 : decode cX7_edge 48 = .ok (.iload_n 3, 1) := by decide +kernel
theorem dX7_edge_49 : decode cX7_edge 49 = .ok (.iconst 4, 1) := by decide +kernel
theorem dX7_edge_50 : decode cX7_edge 50 = .ok (.if_icmp .gt 52, 3) := by decide +kernel
theorem dX7_edge_53 : decode cX7_edge 53 = .ok (.iload_n 2, 1) := by decide +kernel
theorem dX7_edge_54 : decode cX7_edge 54 = .ok (.iload_n 3, 1) := by decide +kernel
theorem dX7_edge_55 : decode cX7_edge 55 = .ok (.isub, 1) := by decide +kernel
theorem dX7_edge_56 : decode cX7_edge 56 = .ok (.ifCond .lt 18, 3) := by decide +kernel
theorem dX7_edge_59 : decode cX7_edge 59 = .ok (.aload_n 0, 1) := by decide +kernel
theorem dX7_edge_60 : decode cX7_edge 60 = .ok (.iload_n 1, 1) := by decide +kernel
theorem dX7_edge_61 : decode cX7_edge 61 = .ok (.iload_n 2, 1) := by decide +kernel
theorem dX7_edge_62 : decode cX7_edge 62 = .ok (.iload_n 3, 1) := by decide +kernel
theorem dX7_edge_63 : decode cX7_edge 63 = .ok (.isub, 1) := by decide +kernel
theorem dX7_edge_64 : decode cX7_edge 64 = .ok (.invokevirtual 230, 3) := by decide +kernel
theorem dX7_edge_67 : decode cX7_edge 67 = .ok (.ifCond .eq 7, 3) := by decide +kernel
theorem dX7_edge_70 : decode cX7_edge 70 = .ok (.iload_n 2, 1) := by decide +kernel
theorem dX7_edge_71 : decode cX7_edge 71 = .ok (.iload_n 3, 1) := by decide +kernel
theorem dX7_edge_72 : decode cX7_edge 72 = .ok (.isub, 1) := by decide +kernel
theorem dX7_edge_73 : decode cX7_edge 73 = .ok (.ireturn, 1) := by decide +kernel
theorem dX7_edge_74 : decode cX7_edge 74 = .ok (.iload_n 2, 1) := by decide +kernel
theorem dX7_edge_75 : decode cX7_edge 75 = .ok (.iload_n 3, 1) := by decide +kernel
theorem dX7_edge_76 : decode cX7_edge 76 = .ok (.iadd, 1) := by decide +kernel
theorem dX7_edge_77 : decode cX7_edge 77 = .ok (.iconst 4, 1) := by decide +kernel
theorem dX7_edge_78 : decode cX7_edge 78 = .ok (.if_icmp .gt 18, 3) := by decide +kernel
theorem dX7_edge_81 : decode cX7_edge 81 = .ok (.aload_n 0, 1) := by decide +kernel
theorem dX7_edge_82 : decode cX7_edge 82 = .ok (.iload_n 1, 1) := by decide +kernel
theorem dX7_edge_83 : decode cX7_edge 83 = .ok (.iload_n 2, 1) := by decide +kernel
theorem dX7_edge_84 : decode cX7_edge 84 = .ok (.iload_n 3, 1) := by decide +kernel
theorem dX7_edge_85 : decode cX7_edge 85 = .ok (.iadd, 1) := by decide +kernel
theorem dX7_edge_86 : decode cX7_edge 86 = .ok (.invokevirtual 230, 3) := by decide +kernel
theorem dX7_edge_89 : decode cX7_edge 89 = .ok (.ifCond .eq 7, 3) := by decide +kernel
theorem dX7_edge_92 : decode cX7_edge 92 = .ok (.iload_n 2, 1) := by decide +kernel
theorem dX7_edge_93 : decode cX7_edge 93 = .ok (.iload_n 3, 1) := by decide +kernel
theorem dX7_edge_94 : decode cX7_edge 94 = .ok (.iadd, 1) := by decide +kernel
theorem dX7_edge_95 : decode cX7_edge 95 = .ok (.ireturn, 1) := by decide +kernel
theorem dX7_edge_96 : decode cX7_edge 96 = .ok (.iinc 3 1, 3) := by decide +kernel
theorem dX7_edge_99 : decode cX7_edge 99 = .ok (.goto (-51), 3) := by decide +kernel
theorem dX7_edge_102 : decode cX7_edge 102 = .ok (.bipush (-6), 2) := by decide +kernel
theorem dX7_edge_104 : decode cX7_edge 104 = .ok (.ireturn, 1) := by decide +kernel
theorem dX7_told_0 : decode cX7_told 0 = .ok (.iload_n 1, 1) := by decide +kernel
theorem dX7_told_1 : decode cX7_told 1 = .ok (.bipush 10, 2) := by decide +kernel
theorem dX7_told_3 : decode cX7_told 3 = .ok (.bipush 15, 2) := by decide +kernel
theorem dX7_told_5 : decode cX7_told 5 = .ok (.invokestatic 81, 3) := by decide +kernel
theorem dX7_told_8 : decode cX7_told 8 = .ok (.ifCond .eq 13, 3) := by decide +kernel
theorem dX7_told_11 : decode cX7_told 11 = .ok (.aload_n 0, 1) := by decide +kernel
theorem dX7_told_12 : decode cX7_told 12 = .ok (.getfield 16, 3) := by decide +kernel
theorem dX7_told_15 : decode cX7_told 15 = .ok (.iload_n 1, 1) := by decide +kernel
theorem dX7_told_16 : decode cX7_told 16 = .ok (.bipush 10, 2) := by decide +kernel
theorem dX7_told_18 : decode cX7_told 18 = .ok (.isub, 1) := by decide +kernel
theorem dX7_told_19 : decode cX7_told 19 = .ok (.iaload, 1) := by decide +kernel
theorem dX7_told_20 : decode cX7_told 20 = .ok (.ireturn, 1) := by decide +kernel
theorem dX7_told_21 : decode cX7_told 21 = .ok (.iload_n 1, 1) := by decide +kernel
theorem dX7_told_22 : decode cX7_told 22 = .ok (.bipush 20, 2) := by decide +kernel
theorem dX7_told_24 : decode cX7_told 24 = .ok (.bipush 24, 2) := by decide +kernel
theorem dX7_told_26 : decode cX7_told 26 = .ok (.invokestatic 81, 3) := by decide +kernel
theorem dX7_told_29 : decode cX7_told 29 = .ok (.ifCond .eq 35, 3) := by decide +kernel
theorem dX7_told_32 : decode cX7_told 32 = .ok (.aload_n 0, 1) := by decide +kernel
theorem dX7_told_33 : decode cX7_told 33 = .ok (.getfield 10, 3) := by decide +kernel
theorem dX7_told_36 : decode cX7_told 36 = .ok (.iload_n 1, 1) := by decide +kernel
theorem dX7_told_37 : decode cX7_told 37 = .ok (.bipush 20, 2) := by decide +kernel
theorem dX7_told_39 : decode cX7_told 39 = .ok (.isub, 1) := by decide +kernel
theorem dX7_told_40 : decode cX7_told 40 = .ok (.invokevirtual 130, 3) := by decide +kernel
theorem dX7_told_43 : decode cX7_told 43 = .ok (.ifCond .eq 18, 3) := by decide +kernel
theorem dX7_told_46 : decode cX7_told 46 = .ok (.aload_n 0, 1) := by decide +kernel
theorem dX7_told_47 : decode cX7_told 47 = .ok (.getfield 10, 3) := by decide +kernel
theorem dX7_told_50 : decode cX7_told 50 = .ok (.getfield 100, 3) := by decide +kernel
theorem dX7_told_53 : decode cX7_told 53 = .ok (.iload_n 1, 1) := by decide +kernel
theorem dX7_told_54 : decode cX7_told 54 = .ok (.bipush 20, 2) := by decide +kernel
theorem dX7_told_56 : decode cX7_told 56 = .ok (.isub, 1) := by decide +kernel
theorem dX7_told_57 : decode cX7_told 57 = .ok (.iaload, 1) := by decide +kernel
theorem dX7_told_58 : decode cX7_told 58 = .ok (.goto 5, 3) := by decide +kernel
theorem dX7_told_61 : decode cX7_told 61 = .ok (.bipush (-6), 2) := by decide +kernel
theorem dX7_told_63 : decode cX7_told 63 = .ok (.ireturn, 1) := by decide +kernel
theorem dX7_told_64 : decode cX7_told 64 = .ok (.iload_n 1, 1) := by decide +kernel
theorem dX7_told_65 : decode cX7_told 65 = .ok (.bipush 30, 2) := by decide +kernel
theorem dX7_told_67 : decode cX7_told 67 = .ok (.bipush 32, 2) := by decide +kernel
theorem dX7_told_69 : decode cX7_told 69 = .ok (.invokestatic 81, 3) := by decide +kernel
theorem dX7_told_72 : decode cX7_told 72 = .ok (.ifCond .eq 34, 3) := by decide +kernel
theorem dX7_told_75 : decode cX7_told 75 = .ok (.aload_n 0, 1) := by decide +kernel
theorem dX7_told_76 : decode cX7_told 76 = .ok (.getfield 10, 3) := by decide +kernel
theorem dX7_told_79 : decode cX7_told 79 = .ok (.iload_n 1, 1) := by decide +kernel
theorem dX7_told_80 : decode cX7_told 80 = .ok (.bipush 30, 2) := by decide +kernel
theorem dX7_told_82 : decode cX7_told 82 = .ok (.isub, 1) := by decide +kernel
theorem dX7_told_83 : decode cX7_told 83 = .ok (.invokevirtual 118, 3) := by decide +kernel
theorem dX7_told_86 : decode cX7_told 86 = .ok (.ifCond .eq 17, 3) := by decide +kernel
theorem dX7_told_89 : decode cX7_told 89 = .ok (.aload_n 0, 1) := by decide +kernel
theorem dX7_told_90 : decode cX7_told 90 = .ok (.getfield 10, 3) := by decide +kernel
theorem dX7_told_93 : decode cX7_told 93 = .ok (.iload_n 1, 1) := by decide +kernel
theorem dX7_told_94 : decode cX7_told 94 = .ok (.bipush 30, 2) := by decide +kernel
theorem dX7_told_96 : decode cX7_told 96 = .ok (.isub, 1) := by decide +kernel
theorem dX7_told_97 : decode cX7_told 97 = .ok (.invokevirtual 122, 3) := by decide +kernel
theorem dX7_told_100 : decode cX7_told 100 = .ok (.goto 5, 3) := by decide +kernel
theorem dX7_told_103 : decode cX7_told 103 = .ok (.bipush (-6), 2) := by decide +kernel
theorem dX7_told_105 : decode cX7_told 105 = .ok (.ireturn, 1) := by decide +kernel
theorem dX7_told_106 : decode cX7_told 106 = .ok (.iload_n 1, 1) := by decide +kernel
theorem dX7_told_107 : decode cX7_told 107 = .ok (.tableswitch 85 0 5 #[37, 45, 53, 61, 69, 77], 37) := by decide +kernel
theorem dX7_told_144 : decode cX7_told 144 = .ok (.aload_n 0, 1) := by decide +kernel
theorem dX7_told_145 : decode cX7_told 145 = .ok (.getfield 10, 3) := by decide +kernel
theorem dX7_told_148 : decode cX7_told 148 = .ok (.getfield 85, 3) := by decide +kernel
theorem dX7_told_151 : decode cX7_told 151 = .ok (.ireturn, 1) := by decide +kernel
theorem dX7_told_152 : decode cX7_told 152 = .ok (.aload_n 0, 1) := by decide +kernel
theorem dX7_told_153 : decode cX7_told 153 = .ok (.getfield 10, 3) := by decide +kernel
theorem dX7_told_156 : decode cX7_told 156 = .ok (.getfield 88, 3) := by decide +kernel
theorem dX7_told_159 : decode cX7_told 159 = .ok (.ireturn, 1) := by decide +kernel
theorem dX7_told_160 : decode cX7_told 160 = .ok (.aload_n 0, 1) := by decide +kernel
theorem dX7_told_161 : decode cX7_told 161 = .ok (.getfield 10, 3) := by decide +kernel
theorem dX7_told_164 : decode cX7_told 164 = .ok (.getfield 91, 3) := by decide +kernel
theorem dX7_told_167 : decode cX7_told 167 = .ok (.ireturn, 1) := by decide +kernel
theorem dX7_told_168 : decode cX7_told 168 = .ok (.aload_n 0, 1) := by decide +kernel
theorem dX7_told_169 : decode cX7_told 169 = .ok (.getfield 10, 3) := by decide +kernel
theorem dX7_told_172 : decode cX7_told 172 = .ok (.getfield 97, 3) := by decide +kernel
theorem dX7_told_175 : decode cX7_told 175 = .ok (.ireturn, 1) := by decide +kernel
theorem dX7_told_176 : decode cX7_told 176 = .ok (.aload_n 0, 1) := by decide +kernel
theorem dX7_told_177 : decode cX7_told 177 = .ok (.getfield 10, 3) := by decide +kernel
theorem dX7_told_180 : decode cX7_told 180 = .ok (.getfield 103, 3) := by decide +kernel
theorem dX7_told_183 : decode cX7_told 183 = .ok (.ireturn, 1) := by decide +kernel
theorem dX7_told_184 : decode cX7_told 184 = .ok (.aload_n 0, 1) := by decide +kernel
theorem dX7_told_185 : decode cX7_told 185 = .ok (.getfield 60, 3) := by decide +kernel
theorem dX7_told_188 : decode cX7_told 188 = .ok (.getfield 203, 3) := by decide +kernel
theorem dX7_told_191 : decode cX7_told 191 = .ok (.ireturn, 1) := by decide +kernel
theorem dX7_told_192 : decode cX7_told 192 = .ok (.bipush (-2), 2) := by decide +kernel
theorem dX7_told_194 : decode cX7_told 194 = .ok (.ireturn, 1) := by decide +kernel
theorem dX7_isWithin_0 : decode cX7_isWithin 0 = .ok (.iload_n 0, 1) := by decide +kernel
theorem dX7_isWithin_1 : decode cX7_isWithin 1 = .ok (.iload_n 1, 1) := by decide +kernel
theorem dX7_isWithin_2 : decode cX7_isWithin 2 = .ok (.if_icmp .lt 12, 3) := by decide +kernel
theorem dX7_isWithin_5 : decode cX7_isWithin 5 = .ok (.iload_n 0, 1) := by decide +kernel
theorem dX7_isWithin_6 : decode cX7_isWithin 6 = .ok (.iload_n 2, 1) := by decide +kernel
theorem dX7_isWithin_7 : decode cX7_isWithin 7 = .ok (.if_icmp .gt 7, 3) := by decide +kernel
theorem dX7_isWithin_10 : decode cX7_isWithin 10 = .ok (.iconst 1, 1) := by decide +kernel
theorem dX7_isWithin_11 : decode cX7_isWithin 11 = .ok (.goto 4, 3) := by decide +kernel
theorem dX7_isWithin_14 : decode cX7_isWithin 14 = .ok (.iconst 0, 1) := by decide +kernel
theorem dX7_isWithin_15 : decode cX7_isWithin 15 = .ok (.ireturn, 1) := by decide +kernel
end
section
theorem dX7_isPart_0 : decode cX7_isPart 0 = .ok (.iload_n 0, 1) := by decide +kernel
theorem dX7_isPart_1 : decode cX7_isPart 1 = .ok (.ifCond .eq 8, 3) := by decide +kernel
theorem dX7_isPart_4 : decode cX7_isPart 4 = .ok (.iload_n 0, 1) := by decide +kernel
theorem dX7_isPart_5 : decode cX7_isPart 5 = .ok (.iconst 1, 1) := by decide +kernel
theorem dX7_isPart_6 : decode cX7_isPart 6 = .ok (.if_icmp .ne 7, 3) := by decide +kernel
theorem dX7_isPart_9 : decode cX7_isPart 9 = .ok (.iconst 1, 1) := by decide +kernel
theorem dX7_isPart_10 : decode cX7_isPart 10 = .ok (.goto 4, 3) := by decide +kernel
theorem dX7_isPart_13 : decode cX7_isPart 13 = .ok (.iconst 0, 1) := by decide +kernel
theorem dX7_isPart_14 : decode cX7_isPart 14 = .ok (.ireturn, 1) := by decide +kernel
theorem dX7_isDay_0 : decode cX7_isDay 0 = .ok (.iload_n 1, 1) := by decide +kernel
theorem dX7_isDay_1 : decode cX7_isDay 1 = .ok (.iconst 0, 1) := by decide +kernel
theorem dX7_isDay_2 : decode cX7_isDay 2 = .ok (.aload_n 0, 1) := by decide +kernel
theorem dX7_isDay_3 : decode cX7_isDay 3 = .ok (.getfield 10, 3) := by decide +kernel
theorem dX7_isDay_6 : decode cX7_isDay 6 = .ok (.getfield 88, 3) := by decide +kernel
theorem dX7_isDay_9 : decode cX7_isDay 9 = .ok (.iconst 1, 1) := by decide +kernel
theorem dX7_isDay_10 : decode cX7_isDay 10 = .ok (.isub, 1) := by decide +kernel
theorem dX7_isDay_11 : decode cX7_isDay 11 = .ok (.invokestatic 81, 3) := by decide +kernel
theorem dX7_isDay_14 : decode cX7_isDay 14 = .ok (.ireturn, 1) := by decide +kernel
theorem dX7_refusalOf_0 : decode cX7_refusalOf 0 = .ok (.iload_n 1, 1) := by decide +kernel
theorem dX7_refusalOf_1 : decode cX7_refusalOf 1 = .ok (.ifCond .ne 6, 3) := by decide +kernel
theorem dX7_refusalOf_4 : decode cX7_refusalOf 4 = .ok (.bipush (-2), 2) := by decide +kernel
theorem dX7_refusalOf_6 : decode cX7_refusalOf 6 = .ok (.ireturn, 1) := by decide +kernel
theorem dX7_refusalOf_7 : decode cX7_refusalOf 7 = .ok (.aload_n 0, 1) := by decide +kernel
theorem dX7_refusalOf_8 : decode cX7_refusalOf 8 = .ok (.getfield 10, 3) := by decide +kernel
theorem dX7_refusalOf_11 : decode cX7_refusalOf 11 = .ok (.getfield 97, 3) := by decide +kernel
theorem dX7_refusalOf_14 : decode cX7_refusalOf 14 = .ok (.ifCond .ne 8, 3) := by decide +kernel
theorem dX7_refusalOf_17 : decode cX7_refusalOf 17 = .ok (.bipush (-3), 2) := by decide +kernel
theorem dX7_refusalOf_19 : decode cX7_refusalOf 19 = .ok (.goto 4, 3) := by decide +kernel
theorem dX7_refusalOf_22 : decode cX7_refusalOf 22 = .ok (.iconst 0, 1) := by decide +kernel
theorem dX7_refusalOf_23 : decode cX7_refusalOf 23 = .ok (.ireturn, 1) := by decide +kernel
theorem dX7_ruleRefusalOf_0 : decode cX7_ruleRefusalOf 0 = .ok (.aload_n 0, 1) := by decide +kernel
theorem dX7_ruleRefusalOf_1 : decode cX7_ruleRefusalOf 1 = .ok (.iload_n 1, 1) := by decide +kernel
theorem dX7_ruleRefusalOf_2 : decode cX7_ruleRefusalOf 2 = .ok (.invokevirtual 136, 3) := by decide +kernel
theorem dX7_ruleRefusalOf_5 : decode cX7_ruleRefusalOf 5 = .ok (.istore_n 2, 1) := by decide +kernel
theorem dX7_ruleRefusalOf_6 : decode cX7_ruleRefusalOf 6 = .ok (.iload_n 2, 1) := by decide +kernel
theorem dX7_ruleRefusalOf_7 : decode cX7_ruleRefusalOf 7 = .ok (.ifCond .ne 18, 3) := by decide +kernel
theorem dX7_ruleRefusalOf_10 : decode cX7_ruleRefusalOf 10 = .ok (.aload_n 0, 1) := by decide +kernel
theorem dX7_ruleRefusalOf_11 : decode cX7_ruleRefusalOf 11 = .ok (.getfield 67, 3) := by decide +kernel
theorem dX7_ruleRefusalOf_14 : decode cX7_ruleRefusalOf 14 = .ok (.getfield 234, 3) := by decide +kernel
theorem dX7_ruleRefusalOf_17 : decode cX7_ruleRefusalOf 17 = .ok (.ifCond .ne 8, 3) := by decide +kernel
theorem dX7_ruleRefusalOf_20 : decode cX7_ruleRefusalOf 20 = .ok (.bipush (-3), 2) := by decide +kernel
theorem dX7_ruleRefusalOf_22 : decode cX7_ruleRefusalOf 22 = .ok (.goto 4, 3) := by decide +kernel
theorem dX7_ruleRefusalOf_25 : decode cX7_ruleRefusalOf 25 = .ok (.iload_n 2, 1) := by decide +kernel
theorem dX7_ruleRefusalOf_26 : decode cX7_ruleRefusalOf 26 = .ok (.ireturn, 1) := by decide +kernel
theorem dX7_partOf_0 : decode cX7_partOf 0 = .ok (.lload_n 0, 1) := by decide +kernel
theorem dX7_partOf_1 : decode cX7_partOf 1 = .ok (.lstore 5, 2) := by decide +kernel
theorem dX7_partOf_3 : decode cX7_partOf 3 = .ok (.lload_n 2, 1) := by decide +kernel
theorem dX7_partOf_4 : decode cX7_partOf 4 = .ok (.lstore 7, 2) := by decide +kernel
theorem dX7_partOf_6 : decode cX7_partOf 6 = .ok (.iconst 0, 1) := by decide +kernel
theorem dX7_partOf_7 : decode cX7_partOf 7 = .ok (.istore 9, 2) := by decide +kernel
theorem dX7_partOf_9 : decode cX7_partOf 9 = .ok (.iload 9, 2) := by decide +kernel
theorem dX7_partOf_11 : decode cX7_partOf 11 = .ok (.bipush 64, 2) := by decide +kernel
theorem dX7_partOf_13 : decode cX7_partOf 13 = .ok (.if_icmp .ge 39, 3) := by decide +kernel
theorem dX7_partOf_16 : decode cX7_partOf 16 = .ok (.lload 5, 2) := by decide +kernel
theorem dX7_partOf_18 : decode cX7_partOf 18 = .ok (.lconst 1, 1) := by decide +kernel
theorem dX7_partOf_19 : decode cX7_partOf 19 = .ok (.land, 1) := by decide +kernel
theorem dX7_partOf_20 : decode cX7_partOf 20 = .ok (.lconst 0, 1) := by decide +kernel
theorem dX7_partOf_21 : decode cX7_partOf 21 = .ok (.lcmp, 1) := by decide +kernel
theorem dX7_partOf_22 : decode cX7_partOf 22 = .ok (.ifCond .ne 30, 3) := by decide +kernel
theorem dX7_partOf_25 : decode cX7_partOf 25 = .ok (.lload 7, 2) := by decide +kernel
theorem dX7_partOf_27 : decode cX7_partOf 27 = .ok (.lconst 1, 1) := by decide +kernel
theorem dX7_partOf_28 : decode cX7_partOf 28 = .ok (.land, 1) := by decide +kernel
theorem dX7_partOf_29 : decode cX7_partOf 29 = .ok (.lconst 0, 1) := by decide +kernel
theorem dX7_partOf_30 : decode cX7_partOf 30 = .ok (.lcmp, 1) := by decide +kernel
theorem dX7_partOf_31 : decode cX7_partOf 31 = .ok (.ifCond .ne 21, 3) := by decide +kernel
theorem dX7_partOf_34 : decode cX7_partOf 34 = .ok (.lload 5, 2) := by decide +kernel
theorem dX7_partOf_36 : decode cX7_partOf 36 = .ok (.iconst 1, 1) := by decide +kernel
theorem dX7_partOf_37 : decode cX7_partOf 37 = .ok (.lshr, 1) := by decide +kernel
theorem dX7_partOf_38 : decode cX7_partOf 38 = .ok (.lstore 5, 2) := by decide +kernel
theorem dX7_partOf_40 : decode cX7_partOf 40 = .ok (.lload 7, 2) := by decide +kernel
theorem dX7_partOf_42 : decode cX7_partOf 42 = .ok (.iconst 1, 1) := by decide +kernel
theorem dX7_partOf_43 : decode cX7_partOf 43 = .ok (.lshr, 1) := by decide +kernel
theorem dX7_partOf_44 : decode cX7_partOf 44 = .ok (.lstore 7, 2) := by decide +kernel
theorem dX7_partOf_46 : decode cX7_partOf 46 = .ok (.iinc 9 1, 3) := by decide +kernel
theorem dX7_partOf_49 : decode cX7_partOf 49 = .ok (.goto (-40), 3) := by decide +kernel
theorem dX7_partOf_52 : decode cX7_partOf 52 = .ok (.iload 4, 2) := by decide +kernel
theorem dX7_partOf_54 : decode cX7_partOf 54 = .ok (.ifCond .ne 8, 3) := by decide +kernel
theorem dX7_partOf_57 : decode cX7_partOf 57 = .ok (.lload 5, 2) := by decide +kernel
theorem dX7_partOf_59 : decode cX7_partOf 59 = .ok (.goto 5, 3) := by decide +kernel
theorem dX7_partOf_62 : decode cX7_partOf 62 = .ok (.lload 7, 2) := by decide +kernel
theorem dX7_partOf_64 : decode cX7_partOf 64 = .ok (.lreturn, 1) := by decide +kernel
theorem dX7_findBest_0 : decode cX7_findBest 0 = .ok (.aload_n 0, 1) := by decide +kernel
theorem dX7_findBest_1 : decode cX7_findBest 1 = .ok (.getfield 71, 3) := by decide +kernel
theorem dX7_findBest_4 : decode cX7_findBest 4 = .ok (.aload_n 0, 1) := by decide +kernel
theorem dX7_findBest_5 : decode cX7_findBest 5 = .ok (.getfield 10, 3) := by decide +kernel
theorem dX7_findBest_8 : decode cX7_findBest 8 = .ok (.getfield 94, 3) := by decide +kernel
theorem dX7_findBest_11 : decode cX7_findBest 11 = .ok (.if_icmp .eq 25, 3) := by decide +kernel
theorem dX7_findBest_14 : decode cX7_findBest 14 = .ok (.aload_n 0, 1) := by decide +kernel
theorem dX7_findBest_15 : decode cX7_findBest 15 = .ok (.getfield 23, 3) := by decide +kernel
theorem dX7_findBest_18 : decode cX7_findBest 18 = .ok (.aload_n 0, 1) := by decide +kernel
theorem dX7_findBest_19 : decode cX7_findBest 19 = .ok (.getfield 10, 3) := by decide +kernel
theorem dX7_findBest_22 : decode cX7_findBest 22 = .ok (.invokevirtual 238, 3) := by decide +kernel
theorem dX7_findBest_25 : decode cX7_findBest 25 = .ok (.aload_n 0, 1) := by decide +kernel
theorem dX7_findBest_26 : decode cX7_findBest 26 = .ok (.aload_n 0, 1) := by decide +kernel
theorem dX7_findBest_27 : decode cX7_findBest 27 = .ok (.getfield 10, 3) := by decide +kernel
theorem dX7_findBest_30 : decode cX7_findBest 30 = .ok (.getfield 94, 3) := by decide +kernel
theorem dX7_findBest_33 : decode cX7_findBest 33 = .ok (.putfield 71, 3) := by decide +kernel
theorem dX7_findBest_36 : decode cX7_findBest 36 = .ok (.return_, 1) := by decide +kernel
theorem dX7_findKept_0 : decode cX7_findKept 0 = .ok (.aload_n 0, 1) := by decide +kernel
theorem dX7_findKept_1 : decode cX7_findKept 1 = .ok (.getfield 75, 3) := by decide +kernel
theorem dX7_findKept_4 : decode cX7_findKept 4 = .ok (.aload_n 0, 1) := by decide +kernel
theorem dX7_findKept_5 : decode cX7_findKept 5 = .ok (.getfield 10, 3) := by decide +kernel
theorem dX7_findKept_8 : decode cX7_findKept 8 = .ok (.getfield 94, 3) := by decide +kernel
theorem dX7_findKept_11 : decode cX7_findKept 11 = .ok (.if_icmp .ne 4, 3) := by decide +kernel
theorem dX7_findKept_14 : decode cX7_findKept 14 = .ok (.return_, 1) := by decide +kernel
theorem dX7_findKept_15 : decode cX7_findKept 15 = .ok (.aload_n 0, 1) := by decide +kernel
theorem dX7_findKept_16 : decode cX7_findKept 16 = .ok (.getfield 47, 3) := by decide +kernel
theorem dX7_findKept_19 : decode cX7_findKept 19 = .ok (.invokevirtual 241, 3) := by decide +kernel
theorem dX7_findKept_22 : decode cX7_findKept 22 = .ok (.aload_n 0, 1) := by decide +kernel
theorem dX7_findKept_23 : decode cX7_findKept 23 = .ok (.getfield 51, 3) := by decide +kernel
theorem dX7_findKept_26 : decode cX7_findKept 26 = .ok (.invokevirtual 241, 3) := by decide +kernel
theorem dX7_findKept_29 : decode cX7_findKept 29 = .ok (.aload_n 0, 1) := by decide +kernel
theorem dX7_findKept_30 : decode cX7_findKept 30 = .ok (.getfield 40, 3) := by decide +kernel
theorem dX7_findKept_33 : decode cX7_findKept 33 = .ok (.invokevirtual 244, 3) := by decide +kernel
theorem dX7_findKept_36 : decode cX7_findKept 36 = .ok (.istore_n 1, 1) := by decide +kernel
theorem dX7_findKept_37 : decode cX7_findKept 37 = .ok (.iconst 0, 1) := by decide +kernel
theorem dX7_findKept_38 : decode cX7_findKept 38 = .ok (.istore_n 2, 1) := by decide +kernel
theorem dX7_findKept_39 : decode cX7_findKept 39 = .ok (.iload_n 2, 1) := by decide +kernel
theorem dX7_findKept_40 : decode cX7_findKept 40 = .ok (.sipush 210, 3) := by decide +kernel
theorem dX7_findKept_43 : decode cX7_findKept 43 = .ok (.if_icmp .ge 116, 3) := by decide +kernel
theorem dX7_findKept_46 : decode cX7_findKept 46 = .ok (.iload_n 1, 1) := by decide +kernel
theorem dX7_findKept_47 : decode cX7_findKept 47 = .ok (.bipush (-6), 2) := by decide +kernel
theorem dX7_findKept_49 : decode cX7_findKept 49 = .ok (.if_icmp .eq 110, 3) := by decide +kernel
theorem dX7_findKept_52 : decode cX7_findKept 52 = .ok (.aload_n 0, 1) := by decide +kernel
theorem dX7_findKept_53 : decode cX7_findKept 53 = .ok (.getfield 33, 3) := by decide +kernel
theorem dX7_findKept_56 : decode cX7_findKept 56 = .ok (.aload_n 0, 1) := by decide +kernel
theorem dX7_findKept_57 : decode cX7_findKept 57 = .ok (.getfield 10, 3) := by decide +kernel
theorem dX7_findKept_60 : decode cX7_findKept 60 = .ok (.aload_n 0, 1) := by decide +kernel
theorem dX7_findKept_61 : decode cX7_findKept 61 = .ok (.getfield 40, 3) := by decide +kernel
theorem dX7_findKept_64 : decode cX7_findKept 64 = .ok (.getfield 247, 3) := by decide +kernel
theorem dX7_findKept_67 : decode cX7_findKept 67 = .ok (.iload_n 1, 1) := by decide +kernel
theorem dX7_findKept_68 : decode cX7_findKept 68 = .ok (.invokevirtual 142, 3) := by decide +kernel
theorem dX7_findKept_71 : decode cX7_findKept 71 = .ok (.aload_n 0, 1) := by decide +kernel
theorem dX7_findKept_72 : decode cX7_findKept 72 = .ok (.getfield 33, 3) := by decide +kernel
theorem dX7_findKept_75 : decode cX7_findKept 75 = .ok (.aload_n 0, 1) := by decide +kernel
theorem dX7_findKept_76 : decode cX7_findKept 76 = .ok (.getfield 10, 3) := by decide +kernel
theorem dX7_findKept_79 : decode cX7_findKept 79 = .ok (.invokevirtual 146, 3) := by decide +kernel
theorem dX7_findKept_82 : decode cX7_findKept 82 = .ok (.lstore_n 3, 1) := by decide +kernel
theorem dX7_findKept_83 : decode cX7_findKept 83 = .ok (.aload_n 0, 1) := by decide +kernel
theorem dX7_findKept_84 : decode cX7_findKept 84 = .ok (.getfield 47, 3) := by decide +kernel
theorem dX7_findKept_87 : decode cX7_findKept 87 = .ok (.lload_n 3, 1) := by decide +kernel
theorem dX7_findKept_88 : decode cX7_findKept 88 = .ok (.aload_n 0, 1) := by decide +kernel
theorem dX7_findKept_89 : decode cX7_findKept 89 = .ok (.getfield 40, 3) := by decide +kernel
theorem dX7_findKept_92 : decode cX7_findKept 92 = .ok (.getfield 247, 3) := by decide +kernel
theorem dX7_findKept_95 : decode cX7_findKept 95 = .ok (.invokevirtual 248, 3) := by decide +kernel
theorem dX7_findKept_98 : decode cX7_findKept 98 = .ok (.aload_n 0, 1) := by decide +kernel
theorem dX7_findKept_99 : decode cX7_findKept 99 = .ok (.getfield 40, 3) := by decide +kernel
theorem dX7_findKept_102 : decode cX7_findKept 102 = .ok (.aload_n 0, 1) := by decide +kernel
theorem dX7_findKept_103 : decode cX7_findKept 103 = .ok (.getfield 10, 3) := by decide +kernel
theorem dX7_findKept_106 : decode cX7_findKept 106 = .ok (.getfield 88, 3) := by decide +kernel
theorem dX7_findKept_109 : decode cX7_findKept 109 = .ok (.invokevirtual 252, 3) := by decide +kernel
theorem dX7_findKept_112 : decode cX7_findKept 112 = .ok (.iconst 1, 1) := by decide +kernel
theorem dX7_findKept_113 : decode cX7_findKept 113 = .ok (.if_icmp .gt 18, 3) := by decide +kernel
theorem dX7_findKept_116 : decode cX7_findKept 116 = .ok (.aload_n 0, 1) := by decide +kernel
theorem dX7_findKept_117 : decode cX7_findKept 117 = .ok (.getfield 51, 3) := by decide +kernel
theorem dX7_findKept_120 : decode cX7_findKept 120 = .ok (.lload_n 3, 1) := by decide +kernel
theorem dX7_findKept_121 : decode cX7_findKept 121 = .ok (.aload_n 0, 1) := by decide +kernel
theorem dX7_findKept_122 : decode cX7_findKept 122 = .ok (.getfield 40, 3) := by decide +kernel
theorem dX7_findKept_125 : decode cX7_findKept 125 = .ok (.getfield 247, 3) := by decide +kernel
theorem dX7_findKept_128 : decode cX7_findKept 128 = .ok (.invokevirtual 248, 3) := by decide +kernel
theorem dX7_findKept_131 : decode cX7_findKept 131 = .ok (.aload_n 0, 1) := by decide +kernel
theorem dX7_findKept_132 : decode cX7_findKept 132 = .ok (.getfield 40, 3) := by decide +kernel
theorem dX7_findKept_135 : decode cX7_findKept 135 = .ok (.aload_n 0, 1) := by decide +kernel
theorem dX7_findKept_136 : decode cX7_findKept 136 = .ok (.getfield 10, 3) := by decide +kernel
theorem dX7_findKept_139 : decode cX7_findKept 139 = .ok (.getfield 88, 3) := by decide +kernel
theorem dX7_findKept_142 : decode cX7_findKept 142 = .ok (.aload_n 0, 1) := by decide +kernel
theorem dX7_findKept_143 : decode cX7_findKept 143 = .ok (.getfield 10, 3) := by decide +kernel
theorem dX7_findKept_146 : decode cX7_findKept 146 = .ok (.getfield 97, 3) := by decide +kernel
theorem dX7_findKept_149 : decode cX7_findKept 149 = .ok (.invokevirtual 255, 3) := by decide +kernel
theorem dX7_findKept_152 : decode cX7_findKept 152 = .ok (.istore_n 1, 1) := by decide +kernel
theorem dX7_findKept_153 : decode cX7_findKept 153 = .ok (.iinc 2 1, 3) := by decide +kernel
theorem dX7_findKept_156 : decode cX7_findKept 156 = .ok (.goto (-117), 3) := by decide +kernel
theorem dX7_findKept_159 : decode cX7_findKept 159 = .ok (.aload_n 0, 1) := by decide +kernel
theorem dX7_findKept_160 : decode cX7_findKept 160 = .ok (.aload_n 0, 1) := by decide +kernel
theorem dX7_findKept_161 : decode cX7_findKept 161 = .ok (.getfield 10, 3) := by decide +kernel
theorem dX7_findKept_164 : decode cX7_findKept 164 = .ok (.getfield 94, 3) := by decide +kernel
theorem dX7_findKept_167 : decode cX7_findKept 167 = .ok (.putfield 75, 3) := by decide +kernel
theorem dX7_findKept_170 : decode cX7_findKept 170 = .ok (.return_, 1) := by decide +kernel
theorem dX7_findMet_0 : decode cX7_findMet 0 = .ok (.aload_n 0, 1) := by decide +kernel
theorem dX7_findMet_1 : decode cX7_findMet 1 = .ok (.getfield 78, 3) := by decide +kernel
theorem dX7_findMet_4 : decode cX7_findMet 4 = .ok (.aload_n 0, 1) := by decide +kernel
theorem dX7_findMet_5 : decode cX7_findMet 5 = .ok (.getfield 10, 3) := by decide +kernel
theorem dX7_findMet_8 : decode cX7_findMet 8 = .ok (.getfield 94, 3) := by decide +kernel
theorem dX7_findMet_11 : decode cX7_findMet 11 = .ok (.if_icmp .ne 4, 3) := by decide +kernel
theorem dX7_findMet_14 : decode cX7_findMet 14 = .ok (.return_, 1) := by decide +kernel
theorem dX7_findMet_15 : decode cX7_findMet 15 = .ok (.aload_n 0, 1) := by decide +kernel
theorem dX7_findMet_16 : decode cX7_findMet 16 = .ok (.getfield 54, 3) := by decide +kernel
theorem dX7_findMet_19 : decode cX7_findMet 19 = .ok (.invokevirtual 241, 3) := by decide +kernel
theorem dX7_findMet_22 : decode cX7_findMet 22 = .ok (.aload_n 0, 1) := by decide +kernel
theorem dX7_findMet_23 : decode cX7_findMet 23 = .ok (.getfield 40, 3) := by decide +kernel
theorem dX7_findMet_26 : decode cX7_findMet 26 = .ok (.invokevirtual 244, 3) := by decide +kernel
theorem dX7_findMet_29 : decode cX7_findMet 29 = .ok (.istore_n 1, 1) := by decide +kernel
theorem dX7_findMet_30 : decode cX7_findMet 30 = .ok (.iconst 0, 1) := by decide +kernel
theorem dX7_findMet_31 : decode cX7_findMet 31 = .ok (.istore_n 2, 1) := by decide +kernel
theorem dX7_findMet_32 : decode cX7_findMet 32 = .ok (.iload_n 2, 1) := by decide +kernel
theorem dX7_findMet_33 : decode cX7_findMet 33 = .ok (.sipush 210, 3) := by decide +kernel
theorem dX7_findMet_36 : decode cX7_findMet 36 = .ok (.if_icmp .ge 80, 3) := by decide +kernel
theorem dX7_findMet_39 : decode cX7_findMet 39 = .ok (.iload_n 1, 1) := by decide +kernel
theorem dX7_findMet_40 : decode cX7_findMet 40 = .ok (.bipush (-6), 2) := by decide +kernel
theorem dX7_findMet_42 : decode cX7_findMet 42 = .ok (.if_icmp .eq 74, 3) := by decide +kernel
theorem dX7_findMet_45 : decode cX7_findMet 45 = .ok (.aload_n 0, 1) := by decide +kernel
theorem dX7_findMet_46 : decode cX7_findMet 46 = .ok (.getfield 33, 3) := by decide +kernel
theorem dX7_findMet_49 : decode cX7_findMet 49 = .ok (.aload_n 0, 1) := by decide +kernel
theorem dX7_findMet_50 : decode cX7_findMet 50 = .ok (.getfield 10, 3) := by decide +kernel
theorem dX7_findMet_53 : decode cX7_findMet 53 = .ok (.aload_n 0, 1) := by decide +kernel
theorem dX7_findMet_54 : decode cX7_findMet 54 = .ok (.getfield 40, 3) := by decide +kernel
theorem dX7_findMet_57 : decode cX7_findMet 57 = .ok (.getfield 247, 3) := by decide +kernel
theorem dX7_findMet_60 : decode cX7_findMet 60 = .ok (.invokevirtual 258, 3) := by decide +kernel
theorem dX7_findMet_63 : decode cX7_findMet 63 = .ok (.aload_n 0, 1) := by decide +kernel
theorem dX7_findMet_64 : decode cX7_findMet 64 = .ok (.getfield 54, 3) := by decide +kernel
theorem dX7_findMet_67 : decode cX7_findMet 67 = .ok (.aload_n 0, 1) := by decide +kernel
theorem dX7_findMet_68 : decode cX7_findMet 68 = .ok (.getfield 33, 3) := by decide +kernel
theorem dX7_findMet_71 : decode cX7_findMet 71 = .ok (.aload_n 0, 1) := by decide +kernel
theorem dX7_findMet_72 : decode cX7_findMet 72 = .ok (.getfield 10, 3) := by decide +kernel
theorem dX7_findMet_75 : decode cX7_findMet 75 = .ok (.invokevirtual 146, 3) := by decide +kernel
theorem dX7_findMet_78 : decode cX7_findMet 78 = .ok (.aload_n 0, 1) := by decide +kernel
theorem dX7_findMet_79 : decode cX7_findMet 79 = .ok (.getfield 40, 3) := by decide +kernel
theorem dX7_findMet_82 : decode cX7_findMet 82 = .ok (.getfield 247, 3) := by decide +kernel
theorem dX7_findMet_85 : decode cX7_findMet 85 = .ok (.invokevirtual 248, 3) := by decide +kernel
theorem dX7_findMet_88 : decode cX7_findMet 88 = .ok (.aload_n 0, 1) := by decide +kernel
theorem dX7_findMet_89 : decode cX7_findMet 89 = .ok (.getfield 40, 3) := by decide +kernel
theorem dX7_findMet_92 : decode cX7_findMet 92 = .ok (.aload_n 0, 1) := by decide +kernel
theorem dX7_findMet_93 : decode cX7_findMet 93 = .ok (.getfield 10, 3) := by decide +kernel
theorem dX7_findMet_96 : decode cX7_findMet 96 = .ok (.getfield 88, 3) := by decide +kernel
theorem dX7_findMet_99 : decode cX7_findMet 99 = .ok (.aload_n 0, 1) := by decide +kernel
theorem dX7_findMet_100 : decode cX7_findMet 100 = .ok (.getfield 10, 3) := by decide +kernel
theorem dX7_findMet_103 : decode cX7_findMet 103 = .ok (.getfield 97, 3) := by decide +kernel
theorem dX7_findMet_106 : decode cX7_findMet 106 = .ok (.invokevirtual 255, 3) := by decide +kernel
theorem dX7_findMet_109 : decode cX7_findMet 109 = .ok (.istore_n 1, 1) := by decide +kernel
theorem dX7_findMet_110 : decode cX7_findMet 110 = .ok (.iinc 2 1, 3) := by decide +kernel
theorem dX7_findMet_113 : decode cX7_findMet 113 = .ok (.goto (-81), 3) := by decide +kernel
theorem dX7_findMet_116 : decode cX7_findMet 116 = .ok (.aload_n 0, 1) := by decide +kernel
theorem dX7_findMet_117 : decode cX7_findMet 117 = .ok (.aload_n 0, 1) := by decide +kernel
theorem dX7_findMet_118 : decode cX7_findMet 118 = .ok (.getfield 10, 3) := by decide +kernel
theorem dX7_findMet_121 : decode cX7_findMet 121 = .ok (.getfield 94, 3) := by decide +kernel
theorem dX7_findMet_124 : decode cX7_findMet 124 = .ok (.putfield 78, 3) := by decide +kernel
theorem dX7_findMet_127 : decode cX7_findMet 127 = .ok (.return_, 1) := by decide +kernel
theorem dX7_findBoy_0 : decode cX7_findBoy 0 = .ok (.aload_n 0, 1) := by decide +kernel
theorem dX7_findBoy_1 : decode cX7_findBoy 1 = .ok (.getfield 27, 3) := by decide +kernel
theorem dX7_findBoy_4 : decode cX7_findBoy 4 = .ok (.aload_n 0, 1) := by decide +kernel
theorem dX7_findBoy_5 : decode cX7_findBoy 5 = .ok (.getfield 67, 3) := by decide +kernel
theorem dX7_findBoy_8 : decode cX7_findBoy 8 = .ok (.aload_n 0, 1) := by decide +kernel
theorem dX7_findBoy_9 : decode cX7_findBoy 9 = .ok (.getfield 10, 3) := by decide +kernel
theorem dX7_findBoy_12 : decode cX7_findBoy 12 = .ok (.getfield 97, 3) := by decide +kernel
theorem dX7_findBoy_15 : decode cX7_findBoy 15 = .ok (.invokevirtual 262, 3) := by decide +kernel
theorem dX7_findBoy_18 : decode cX7_findBoy 18 = .ok (.aload_n 0, 1) := by decide +kernel
theorem dX7_findBoy_19 : decode cX7_findBoy 19 = .ok (.getfield 27, 3) := by decide +kernel
theorem dX7_findBoy_22 : decode cX7_findBoy 22 = .ok (.aload_n 0, 1) := by decide +kernel
theorem dX7_findBoy_23 : decode cX7_findBoy 23 = .ok (.getfield 10, 3) := by decide +kernel
theorem dX7_findBoy_26 : decode cX7_findBoy 26 = .ok (.invokevirtual 192, 3) := by decide +kernel
theorem dX7_findBoy_29 : decode cX7_findBoy 29 = .ok (.return_, 1) := by decide +kernel
theorem dX7_promised_0 : decode cX7_promised 0 = .ok (.iload_n 1, 1) := by decide +kernel
theorem dX7_promised_1 : decode cX7_promised 1 = .ok (.iconst 2, 1) := by decide +kernel
theorem dX7_promised_2 : decode cX7_promised 2 = .ok (.if_icmp .ne 12, 3) := by decide +kernel
theorem dX7_promised_5 : decode cX7_promised 5 = .ok (.aload_n 0, 1) := by decide +kernel
theorem dX7_promised_6 : decode cX7_promised 6 = .ok (.invokevirtual 266, 3) := by decide +kernel
theorem dX7_promised_9 : decode cX7_promised 9 = .ok (.aload_n 0, 1) := by decide +kernel
theorem dX7_promised_10 : decode cX7_promised 10 = .ok (.getfield 54, 3) := by decide +kernel
theorem dX7_promised_13 : decode cX7_promised 13 = .ok (.areturn, 1) := by decide +kernel
theorem dX7_promised_14 : decode cX7_promised 14 = .ok (.aload_n 0, 1) := by decide +kernel
theorem dX7_promised_15 : decode cX7_promised 15 = .ok (.invokevirtual 185, 3) := by decide +kernel
theorem dX7_promised_18 : decode cX7_promised 18 = .ok (.iload_n 1, 1) := by decide +kernel
theorem dX7_promised_19 : decode cX7_promised 19 = .ok (.iconst 1, 1) := by decide +kernel
theorem dX7_promised_20 : decode cX7_promised 20 = .ok (.if_icmp .ne 10, 3) := by decide +kernel
theorem dX7_promised_23 : decode cX7_promised 23 = .ok (.aload_n 0, 1) := by decide +kernel
theorem dX7_promised_24 : decode cX7_promised 24 = .ok (.getfield 51, 3) := by decide +kernel
theorem dX7_promised_27 : decode cX7_promised 27 = .ok (.goto 7, 3) := by decide +kernel
theorem dX7_promised_30 : decode cX7_promised 30 = .ok (.aload_n 0, 1) := by decide +kernel
theorem dX7_promised_31 : decode cX7_promised 31 = .ok (.getfield 47, 3) := by decide +kernel
theorem dX7_promised_34 : decode cX7_promised 34 = .ok (.areturn, 1) := by decide +kernel
theorem dX7_promiseMean_0 : decode cX7_promiseMean 0 = .ok (.iload_n 1, 1) := by decide +kernel
theorem dX7_promiseMean_1 : decode cX7_promiseMean 1 = .ok (.iconst 4, 1) := by decide +kernel
theorem dX7_promiseMean_2 : decode cX7_promiseMean 2 = .ok (.if_icmp .ne 30, 3) := by decide +kernel
theorem dX7_promiseMean_5 : decode cX7_promiseMean 5 = .ok (.aload_n 0, 1) := by decide +kernel
theorem dX7_promiseMean_6 : decode cX7_promiseMean 6 = .ok (.getfield 33, 3) := by decide +kernel
theorem dX7_promiseMean_9 : decode cX7_promiseMean 9 = .ok (.aload_n 0, 1) := by decide +kernel
theorem dX7_promiseMean_10 : decode cX7_promiseMean 10 = .ok (.getfield 10, 3) := by decide +kernel
theorem dX7_promiseMean_13 : decode cX7_promiseMean 13 = .ok (.aload_n 0, 1) := by decide +kernel
theorem dX7_promiseMean_14 : decode cX7_promiseMean 14 = .ok (.getfield 16, 3) := by decide +kernel
theorem dX7_promiseMean_17 : decode cX7_promiseMean 17 = .ok (.invokevirtual 258, 3) := by decide +kernel
theorem dX7_promiseMean_20 : decode cX7_promiseMean 20 = .ok (.aload_n 0, 1) := by decide +kernel
theorem dX7_promiseMean_21 : decode cX7_promiseMean 21 = .ok (.getfield 33, 3) := by decide +kernel
theorem dX7_promiseMean_24 : decode cX7_promiseMean 24 = .ok (.aload_n 0, 1) := by decide +kernel
theorem dX7_promiseMean_25 : decode cX7_promiseMean 25 = .ok (.getfield 10, 3) := by decide +kernel
theorem dX7_promiseMean_28 : decode cX7_promiseMean 28 = .ok (.invokevirtual 146, 3) := by decide +kernel
theorem dX7_promiseMean_31 : decode cX7_promiseMean 31 = .ok (.lreturn, 1) := by decide +kernel
theorem dX7_promiseMean_32 : decode cX7_promiseMean 32 = .ok (.iload_n 1, 1) := by decide +kernel
theorem dX7_promiseMean_33 : decode cX7_promiseMean 33 = .ok (.iconst 3, 1) := by decide +kernel
theorem dX7_promiseMean_34 : decode cX7_promiseMean 34 = .ok (.if_icmp .ne 37, 3) := by decide +kernel
theorem dX7_promiseMean_37 : decode cX7_promiseMean 37 = .ok (.aload_n 0, 1) := by decide +kernel
theorem dX7_promiseMean_38 : decode cX7_promiseMean 38 = .ok (.invokevirtual 165, 3) := by decide +kernel
theorem dX7_promiseMean_41 : decode cX7_promiseMean 41 = .ok (.aload_n 0, 1) := by decide +kernel
theorem dX7_promiseMean_42 : decode cX7_promiseMean 42 = .ok (.invokevirtual 185, 3) := by decide +kernel
theorem dX7_promiseMean_45 : decode cX7_promiseMean 45 = .ok (.aload_n 0, 1) := by decide +kernel
theorem dX7_promiseMean_46 : decode cX7_promiseMean 46 = .ok (.getfield 23, 3) := by decide +kernel
theorem dX7_promiseMean_49 : decode cX7_promiseMean 49 = .ok (.getfield 172, 3) := by decide +kernel
theorem dX7_promiseMean_52 : decode cX7_promiseMean 52 = .ok (.iconst 0, 1) := by decide +kernel
theorem dX7_promiseMean_53 : decode cX7_promiseMean 53 = .ok (.aaload, 1) := by decide +kernel
theorem dX7_promiseMean_54 : decode cX7_promiseMean 54 = .ok (.aload_n 0, 1) := by decide +kernel
theorem dX7_promiseMean_55 : decode cX7_promiseMean 55 = .ok (.getfield 10, 3) := by decide +kernel
theorem dX7_promiseMean_58 : decode cX7_promiseMean 58 = .ok (.getfield 85, 3) := by decide +kernel
theorem dX7_promiseMean_61 : decode cX7_promiseMean 61 = .ok (.laload, 1) := by decide +kernel
theorem dX7_promiseMean_62 : decode cX7_promiseMean 62 = .ok (.aload_n 0, 1) := by decide +kernel
theorem dX7_promiseMean_63 : decode cX7_promiseMean 63 = .ok (.getfield 47, 3) := by decide +kernel
theorem dX7_promiseMean_66 : decode cX7_promiseMean 66 = .ok (.getfield 269, 3) := by decide +kernel
theorem dX7_promiseMean_69 : decode cX7_promiseMean 69 = .ok (.lsub, 1) := by decide +kernel
theorem dX7_promiseMean_70 : decode cX7_promiseMean 70 = .ok (.lreturn, 1) := by decide +kernel
theorem dX7_promiseMean_71 : decode cX7_promiseMean 71 = .ok (.aload_n 0, 1) := by decide +kernel
theorem dX7_promiseMean_72 : decode cX7_promiseMean 72 = .ok (.iload_n 1, 1) := by decide +kernel
theorem dX7_promiseMean_73 : decode cX7_promiseMean 73 = .ok (.invokevirtual 175, 3) := by decide +kernel
theorem dX7_promiseMean_76 : decode cX7_promiseMean 76 = .ok (.getfield 269, 3) := by decide +kernel
theorem dX7_promiseMean_79 : decode cX7_promiseMean 79 = .ok (.lreturn, 1) := by decide +kernel
theorem dX7_isOtherWith_0 : decode cX7_isOtherWith 0 = .ok (.aload_n 0, 1) := by decide +kernel
theorem dX7_isOtherWith_1 : decode cX7_isOtherWith 1 = .ok (.invokevirtual 165, 3) := by decide +kernel
theorem dX7_isOtherWith_4 : decode cX7_isOtherWith 4 = .ok (.aload_n 0, 1) := by decide +kernel
theorem dX7_isOtherWith_5 : decode cX7_isOtherWith 5 = .ok (.getfield 10, 3) := by decide +kernel
theorem dX7_isOtherWith_8 : decode cX7_isOtherWith 8 = .ok (.getfield 106, 3) := by decide +kernel
theorem dX7_isOtherWith_11 : decode cX7_isOtherWith 11 = .ok (.iload_n 1, 1) := by decide +kernel
theorem dX7_isOtherWith_12 : decode cX7_isOtherWith 12 = .ok (.iaload, 1) := by decide +kernel
theorem dX7_isOtherWith_13 : decode cX7_isOtherWith 13 = .ok (.istore_n 3, 1) := by decide +kernel
theorem dX7_isOtherWith_14 : decode cX7_isOtherWith 14 = .ok (.aload_n 0, 1) := by decide +kernel
theorem dX7_isOtherWith_15 : decode cX7_isOtherWith 15 = .ok (.getfield 10, 3) := by decide +kernel
theorem dX7_isOtherWith_18 : decode cX7_isOtherWith 18 = .ok (.getfield 106, 3) := by decide +kernel
theorem dX7_isOtherWith_21 : decode cX7_isOtherWith 21 = .ok (.iload_n 1, 1) := by decide +kernel
theorem dX7_isOtherWith_22 : decode cX7_isOtherWith 22 = .ok (.iload_n 2, 1) := by decide +kernel
theorem dX7_isOtherWith_23 : decode cX7_isOtherWith 23 = .ok (.iastore, 1) := by decide +kernel
theorem dX7_isOtherWith_24 : decode cX7_isOtherWith 24 = .ok (.aload_n 0, 1) := by decide +kernel
theorem dX7_isOtherWith_25 : decode cX7_isOtherWith 25 = .ok (.getfield 27, 3) := by decide +kernel
theorem dX7_isOtherWith_28 : decode cX7_isOtherWith 28 = .ok (.aload_n 0, 1) := by decide +kernel
theorem dX7_isOtherWith_29 : decode cX7_isOtherWith 29 = .ok (.getfield 10, 3) := by decide +kernel
theorem dX7_isOtherWith_32 : decode cX7_isOtherWith 32 = .ok (.invokevirtual 238, 3) := by decide +kernel
theorem dX7_isOtherWith_35 : decode cX7_isOtherWith 35 = .ok (.aload_n 0, 1) := by decide +kernel
theorem dX7_isOtherWith_36 : decode cX7_isOtherWith 36 = .ok (.getfield 10, 3) := by decide +kernel
theorem dX7_isOtherWith_39 : decode cX7_isOtherWith 39 = .ok (.getfield 106, 3) := by decide +kernel
theorem dX7_isOtherWith_42 : decode cX7_isOtherWith 42 = .ok (.iload_n 1, 1) := by decide +kernel
theorem dX7_isOtherWith_43 : decode cX7_isOtherWith 43 = .ok (.iload_n 3, 1) := by decide +kernel
theorem dX7_isOtherWith_44 : decode cX7_isOtherWith 44 = .ok (.iastore, 1) := by decide +kernel
theorem dX7_isOtherWith_45 : decode cX7_isOtherWith 45 = .ok (.aload_n 0, 1) := by decide +kernel
theorem dX7_isOtherWith_46 : decode cX7_isOtherWith 46 = .ok (.getfield 27, 3) := by decide +kernel
theorem dX7_isOtherWith_49 : decode cX7_isOtherWith 49 = .ok (.getfield 168, 3) := by decide +kernel
theorem dX7_isOtherWith_52 : decode cX7_isOtherWith 52 = .ok (.iconst 0, 1) := by decide +kernel
theorem dX7_isOtherWith_53 : decode cX7_isOtherWith 53 = .ok (.aaload, 1) := by decide +kernel
theorem dX7_isOtherWith_54 : decode cX7_isOtherWith 54 = .ok (.aload_n 0, 1) := by decide +kernel
theorem dX7_isOtherWith_55 : decode cX7_isOtherWith 55 = .ok (.getfield 10, 3) := by decide +kernel
theorem dX7_isOtherWith_58 : decode cX7_isOtherWith 58 = .ok (.getfield 85, 3) := by decide +kernel
theorem dX7_isOtherWith_61 : decode cX7_isOtherWith 61 = .ok (.iaload, 1) := by decide +kernel
theorem dX7_isOtherWith_62 : decode cX7_isOtherWith 62 = .ok (.aload_n 0, 1) := by decide +kernel
theorem dX7_isOtherWith_63 : decode cX7_isOtherWith 63 = .ok (.getfield 23, 3) := by decide +kernel
theorem dX7_isOtherWith_66 : decode cX7_isOtherWith 66 = .ok (.getfield 168, 3) := by decide +kernel
theorem dX7_isOtherWith_69 : decode cX7_isOtherWith 69 = .ok (.iconst 0, 1) := by decide +kernel
theorem dX7_isOtherWith_70 : decode cX7_isOtherWith 70 = .ok (.aaload, 1) := by decide +kernel
theorem dX7_isOtherWith_71 : decode cX7_isOtherWith 71 = .ok (.aload_n 0, 1) := by decide +kernel
theorem dX7_isOtherWith_72 : decode cX7_isOtherWith 72 = .ok (.getfield 10, 3) := by decide +kernel
theorem dX7_isOtherWith_75 : decode cX7_isOtherWith 75 = .ok (.getfield 85, 3) := by decide +kernel
theorem dX7_isOtherWith_78 : decode cX7_isOtherWith 78 = .ok (.iaload, 1) := by decide +kernel
theorem dX7_isOtherWith_79 : decode cX7_isOtherWith 79 = .ok (.if_icmp .eq 7, 3) := by decide +kernel
theorem dX7_isOtherWith_82 : decode cX7_isOtherWith 82 = .ok (.iconst 1, 1) := by decide +kernel
theorem dX7_isOtherWith_83 : decode cX7_isOtherWith 83 = .ok (.goto 4, 3) := by decide +kernel
theorem dX7_isOtherWith_86 : decode cX7_isOtherWith 86 = .ok (.iconst 0, 1) := by decide +kernel
theorem dX7_isOtherWith_87 : decode cX7_isOtherWith 87 = .ok (.ireturn, 1) := by decide +kernel
end
section
theorem dX8_init_0 : decode cX8_init 0 = .ok (.aload_n 0, 1) := by decide +kernel
theorem dX8_init_1 : decode cX8_init 1 = .ok (.invokespecial 1, 3) := by decide +kernel
theorem dX8_init_4 : decode cX8_init 4 = .ok (.aload_n 0, 1) := by decide +kernel
theorem dX8_init_5 : decode cX8_init 5 = .ok (.iconst 5, 1) := by decide +kernel
theorem dX8_init_6 : decode cX8_init 6 = .ok (.newarray .int, 2) := by decide +kernel
theorem dX8_init_8 : decode cX8_init 8 = .ok (.putfield 7, 3) := by decide +kernel
theorem dX8_init_11 : decode cX8_init 11 = .ok (.aload_n 0, 1) := by decide +kernel
theorem dX8_init_12 : decode cX8_init 12 = .ok (.iconst 3, 1) := by decide +kernel
theorem dX8_init_13 : decode cX8_init 13 = .ok (.newarray .int, 2) := by decide +kernel
theorem dX8_init_15 : decode cX8_init 15 = .ok (.putfield 13, 3) := by decide +kernel
theorem dX8_init_18 : decode cX8_init 18 = .ok (.aload_n 0, 1) := by decide +kernel
theorem dX8_init_19 : decode cX8_init 19 = .ok (.iconst 3, 1) := by decide +kernel
theorem dX8_init_20 : decode cX8_init 20 = .ok (.newarray .int, 2) := by decide +kernel
theorem dX8_init_22 : decode cX8_init 22 = .ok (.putfield 16, 3) := by decide +kernel
theorem dX8_init_25 : decode cX8_init 25 = .ok (.aload_n 0, 1) := by decide +kernel
theorem dX8_init_26 : decode cX8_init 26 = .ok (.iconst 3, 1) := by decide +kernel
theorem dX8_init_27 : decode cX8_init 27 = .ok (.newarray .int, 2) := by decide +kernel
theorem dX8_init_29 : decode cX8_init 29 = .ok (.putfield 19, 3) := by decide +kernel
theorem dX8_init_32 : decode cX8_init 32 = .ok (.aload_n 0, 1) := by decide +kernel
theorem dX8_init_33 : decode cX8_init 33 = .ok (.iconst 3, 1) := by decide +kernel
theorem dX8_init_34 : decode cX8_init 34 = .ok (.newarray .int, 2) := by decide +kernel
theorem dX8_init_36 : decode cX8_init 36 = .ok (.putfield 22, 3) := by decide +kernel
theorem dX8_init_39 : decode cX8_init 39 = .ok (.aload_n 0, 1) := by decide +kernel
theorem dX8_init_40 : decode cX8_init 40 = .ok (.bipush 6, 2) := by decide +kernel
theorem dX8_init_42 : decode cX8_init 42 = .ok (.newarray .int, 2) := by decide +kernel
theorem dX8_init_44 : decode cX8_init 44 = .ok (.putfield 25, 3) := by decide +kernel
theorem dX8_init_47 : decode cX8_init 47 = .ok (.aload_n 0, 1) := by decide +kernel
theorem dX8_init_48 : decode cX8_init 48 = .ok (.bipush 13, 2) := by decide +kernel
theorem dX8_init_50 : decode cX8_init 50 = .ok (.newarray .long, 2) := by decide +kernel
theorem dX8_init_52 : decode cX8_init 52 = .ok (.putfield 28, 3) := by decide +kernel
theorem dX8_init_55 : decode cX8_init 55 = .ok (.aload_n 0, 1) := by decide +kernel
theorem dX8_init_56 : decode cX8_init 56 = .ok (.bipush 91, 2) := by decide +kernel
theorem dX8_init_58 : decode cX8_init 58 = .ok (.newarray .long, 2) := by decide +kernel
theorem dX8_init_60 : decode cX8_init 60 = .ok (.putfield 32, 3) := by decide +kernel
theorem dX8_init_63 : decode cX8_init 63 = .ok (.aload_n 0, 1) := by decide +kernel
theorem dX8_init_64 : decode cX8_init 64 = .ok (.bipush 78, 2) := by decide +kernel
theorem dX8_init_66 : decode cX8_init 66 = .ok (.newarray .int, 2) := by decide +kernel
theorem dX8_init_68 : decode cX8_init 68 = .ok (.putfield 35, 3) := by decide +kernel
theorem dX8_init_71 : decode cX8_init 71 = .ok (.aload_n 0, 1) := by decide +kernel
theorem dX8_init_72 : decode cX8_init 72 = .ok (.bipush 13, 2) := by decide +kernel
theorem dX8_init_74 : decode cX8_init 74 = .ok (.newarray .long, 2) := by decide +kernel
theorem dX8_init_76 : decode cX8_init 76 = .ok (.putfield 38, 3) := by decide +kernel
theorem dX8_init_79 : decode cX8_init 79 = .ok (.aload_n 0, 1) := by decide +kernel
theorem dX8_init_80 : decode cX8_init 80 = .ok (.bipush 6, 2) := by decide +kernel
theorem dX8_init_82 : decode cX8_init 82 = .ok (.newarray .int, 2) := by decide +kernel
theorem dX8_init_84 : decode cX8_init 84 = .ok (.putfield 41, 3) := by decide +kernel
theorem dX8_init_87 : decode cX8_init 87 = .ok (.aload_n 0, 1) := by decide +kernel
theorem dX8_init_88 : decode cX8_init 88 = .ok (.bipush 13, 2) := by decide +kernel
theorem dX8_init_90 : decode cX8_init 90 = .ok (.newarray .long, 2) := by decide +kernel
theorem dX8_init_92 : decode cX8_init 92 = .ok (.putfield 44, 3) := by decide +kernel
theorem dX8_init_95 : decode cX8_init 95 = .ok (.aload_n 0, 1) := by decide +kernel
theorem dX8_init_96 : decode cX8_init 96 = .ok (.bipush 6, 2) := by decide +kernel
theorem dX8_init_98 : decode cX8_init 98 = .ok (.newarray .int, 2) := by decide +kernel
theorem dX8_init_100 : decode cX8_init 100 = .ok (.putfield 47, 3) := by decide +kernel
theorem dX8_init_103 : decode cX8_init 103 = .ok (.aload_n 0, 1) := by decide +kernel
theorem dX8_init_104 : decode cX8_init 104 = .ok (.bipush 40, 2) := by decide +kernel
theorem dX8_init_106 : decode cX8_init 106 = .ok (.newarray .int, 2) := by decide +kernel
theorem dX8_init_108 : decode cX8_init 108 = .ok (.putfield 50, 3) := by decide +kernel
theorem dX8_init_111 : decode cX8_init 111 = .ok (.aload_n 0, 1) := by decide +kernel
theorem dX8_init_112 : decode cX8_init 112 = .ok (.bipush 8, 2) := by decide +kernel
theorem dX8_init_114 : decode cX8_init 114 = .ok (.newarray .int, 2) := by decide +kernel
theorem dX8_init_116 : decode cX8_init 116 = .ok (.putfield 53, 3) := by decide +kernel
theorem dX8_init_119 : decode cX8_init 119 = .ok (.aload_n 0, 1) := by decide +kernel
theorem dX8_init_120 : decode cX8_init 120 = .ok (.bipush 8, 2) := by decide +kernel
theorem dX8_init_122 : decode cX8_init 122 = .ok (.newarray .int, 2) := by decide +kernel
theorem dX8_init_124 : decode cX8_init 124 = .ok (.putfield 56, 3) := by decide +kernel
theorem dX8_init_127 : decode cX8_init 127 = .ok (.aload_n 0, 1) := by decide +kernel
theorem dX8_init_128 : decode cX8_init 128 = .ok (.bipush 8, 2) := by decide +kernel
theorem dX8_init_130 : decode cX8_init 130 = .ok (.newarray .int, 2) := by decide +kernel
theorem dX8_init_132 : decode cX8_init 132 = .ok (.putfield 59, 3) := by decide +kernel
theorem dX8_init_135 : decode cX8_init 135 = .ok (.aload_n 0, 1) := by decide +kernel
theorem dX8_init_136 : decode cX8_init 136 = .ok (.bipush 8, 2) := by decide +kernel
theorem dX8_init_138 : decode cX8_init 138 = .ok (.newarray .int, 2) := by decide +kernel
theorem dX8_init_140 : decode cX8_init 140 = .ok (.putfield 62, 3) := by decide +kernel
theorem dX8_init_143 : decode cX8_init 143 = .ok (.aload_n 0, 1) := by decide +kernel
theorem dX8_init_144 : decode cX8_init 144 = .ok (.bipush (-6), 2) := by decide +kernel
theorem dX8_init_146 : decode cX8_init 146 = .ok (.putfield 65, 3) := by decide +kernel
theorem dX8_init_149 : decode cX8_init 149 = .ok (.aload_n 0, 1) := by decide +kernel
theorem dX8_init_150 : decode cX8_init 150 = .ok (.bipush 13, 2) := by decide +kernel
theorem dX8_init_152 : decode cX8_init 152 = .ok (.newarray .long, 2) := by decide +kernel
theorem dX8_init_154 : decode cX8_init 154 = .ok (.putfield 69, 3) := by decide +kernel
theorem dX8_init_157 : decode cX8_init 157 = .ok (.aload_n 0, 1) := by decide +kernel
theorem dX8_init_158 : decode cX8_init 158 = .ok (.bipush 13, 2) := by decide +kernel
theorem dX8_init_160 : decode cX8_init 160 = .ok (.newarray .long, 2) := by decide +kernel
theorem dX8_init_162 : decode cX8_init 162 = .ok (.putfield 72, 3) := by decide +kernel
theorem dX8_init_165 : decode cX8_init 165 = .ok (.aload_n 0, 1) := by decide +kernel
theorem dX8_init_166 : decode cX8_init 166 = .ok (.iconst 4, 1) := by decide +kernel
theorem dX8_init_167 : decode cX8_init 167 = .ok (.putfield 75, 3) := by decide +kernel
theorem dX8_init_170 : decode cX8_init 170 = .ok (.aload_n 0, 1) := by decide +kernel
theorem dX8_init_171 : decode cX8_init 171 = .ok (.iconst 3, 1) := by decide +kernel
theorem dX8_init_172 : decode cX8_init 172 = .ok (.putfield 78, 3) := by decide +kernel
theorem dX8_init_175 : decode cX8_init 175 = .ok (.return_, 1) := by decide +kernel
theorem dX8_in_0 : decode cX8_in 0 = .ok (.lload_n 0, 1) := by decide +kernel
theorem dX8_in_1 : decode cX8_in 1 = .ok (.lload_n 2, 1) := by decide +kernel
theorem dX8_in_2 : decode cX8_in 2 = .ok (.lcmp, 1) := by decide +kernel
theorem dX8_in_3 : decode cX8_in 3 = .ok (.ifCond .lt 14, 3) := by decide +kernel
theorem dX8_in_6 : decode cX8_in 6 = .ok (.lload_n 0, 1) := by decide +kernel
theorem dX8_in_7 : decode cX8_in 7 = .ok (.lload 4, 2) := by decide +kernel
theorem dX8_in_9 : decode cX8_in 9 = .ok (.lcmp, 1) := by decide +kernel
theorem dX8_in_10 : decode cX8_in 10 = .ok (.ifCond .gt 7, 3) := by decide +kernel
theorem dX8_in_13 : decode cX8_in 13 = .ok (.iconst 1, 1) := by decide +kernel
theorem dX8_in_14 : decode cX8_in 14 = .ok (.goto 4, 3) := by decide +kernel
theorem dX8_in_17 : decode cX8_in 17 = .ok (.iconst 0, 1) := by decide +kernel
theorem dX8_in_18 : decode cX8_in 18 = .ok (.ireturn, 1) := by decide +kernel
theorem dX8_set_0 : decode cX8_set 0 = .ok (.iload_n 1, 1) := by decide +kernel
theorem dX8_set_1 : decode cX8_set 1 = .ok (.i2l, 1) := by decide +kernel
theorem dX8_set_2 : decode cX8_set 2 = .ok (.lconst 0, 1) := by decide +kernel
theorem dX8_set_3 : decode cX8_set 3 = .ok (.ldc2_w 81, 3) := by decide +kernel
theorem dX8_set_6 : decode cX8_set 6 = .ok (.invokestatic 83, 3) := by decide +kernel
theorem dX8_set_9 : decode cX8_set 9 = .ok (.ifCond .eq 45, 3) := by decide +kernel
theorem dX8_set_12 : decode cX8_set 12 = .ok (.iload_n 2, 1) := by decide +kernel
theorem dX8_set_13 : decode cX8_set 13 = .ok (.i2l, 1) := by decide +kernel
theorem dX8_set_14 : decode cX8_set 14 = .ok (.iload_n 1, 1) := by decide +kernel
theorem dX8_set_15 : decode cX8_set 15 = .ok (.iconst 1, 1) := by decide +kernel
theorem dX8_set_16 : decode cX8_set 16 = .ok (.if_icmp .ne 7, 3) := by decide +kernel
theorem dX8_set_19 : decode cX8_set 19 = .ok (.lconst 1, 1) := by decide +kernel
theorem dX8_set_20 : decode cX8_set 20 = .ok (.goto 4, 3) := by decide +kernel
theorem dX8_set_23 : decode cX8_set 23 = .ok (.lconst 0, 1) := by decide +kernel
theorem dX8_set_24 : decode cX8_set 24 = .ok (.iload_n 1, 1) := by decide +kernel
theorem dX8_set_25 : decode cX8_set 25 = .ok (.ifCond .ne 9, 3) := by decide +kernel
theorem dX8_set_28 : decode cX8_set 28 = .ok (.ldc2_w 87, 3) := by decide +kernel
theorem dX8_set_31 : decode cX8_set 31 = .ok (.goto 17, 3) := by decide +kernel
theorem dX8_set_34 : decode cX8_set 34 = .ok (.iload_n 1, 1) := by decide +kernel
theorem dX8_set_35 : decode cX8_set 35 = .ok (.iconst 1, 1) := by decide +kernel
theorem dX8_set_36 : decode cX8_set 36 = .ok (.if_icmp .ne 9, 3) := by decide +kernel
theorem dX8_set_39 : decode cX8_set 39 = .ok (.ldc2_w 89, 3) := by decide +kernel
theorem dX8_set_42 : decode cX8_set 42 = .ok (.goto 6, 3) := by decide +kernel
theorem dX8_set_45 : decode cX8_set 45 = .ok (.ldc2_w 91, 3) := by decide +kernel
theorem dX8_set_48 : decode cX8_set 48 = .ok (.invokestatic 83, 3) := by decide +kernel
theorem dX8_set_51 : decode cX8_set 51 = .ok (.ifCond .ne 6, 3) := by decide +kernel
theorem dX8_set_54 : decode cX8_set 54 = .ok (.bipush (-2), 2) := by decide +kernel
theorem dX8_set_56 : decode cX8_set 56 = .ok (.ireturn, 1) := by decide +kernel
theorem dX8_set_57 : decode cX8_set 57 = .ok (.iload_n 1, 1) := by decide +kernel
theorem dX8_set_58 : decode cX8_set 58 = .ok (.ifCond .ne 10, 3) := by decide +kernel
theorem dX8_set_61 : decode cX8_set 61 = .ok (.aload_n 0, 1) := by decide +kernel
theorem dX8_set_62 : decode cX8_set 62 = .ok (.getfield 75, 3) := by decide +kernel
theorem dX8_set_65 : decode cX8_set 65 = .ok (.goto 19, 3) := by decide +kernel
theorem dX8_set_68 : decode cX8_set 68 = .ok (.iload_n 1, 1) := by decide +kernel
theorem dX8_set_69 : decode cX8_set 69 = .ok (.iconst 1, 1) := by decide +kernel
theorem dX8_set_70 : decode cX8_set 70 = .ok (.if_icmp .ne 10, 3) := by decide +kernel
theorem dX8_set_73 : decode cX8_set 73 = .ok (.aload_n 0, 1) := by decide +kernel
theorem dX8_set_74 : decode cX8_set 74 = .ok (.getfield 78, 3) := by decide +kernel
theorem dX8_set_77 : decode cX8_set 77 = .ok (.goto 7, 3) := by decide +kernel
theorem dX8_set_80 : decode cX8_set 80 = .ok (.aload_n 0, 1) := by decide +kernel
theorem dX8_set_81 : decode cX8_set 81 = .ok (.getfield 93, 3) := by decide +kernel
theorem dX8_set_84 : decode cX8_set 84 = .ok (.istore_n 3, 1) := by decide +kernel
theorem dX8_set_85 : decode cX8_set 85 = .ok (.iload_n 1, 1) := by decide +kernel
theorem dX8_set_86 : decode cX8_set 86 = .ok (.ifCond .ne 11, 3) := by decide +kernel
theorem dX8_set_89 : decode cX8_set 89 = .ok (.aload_n 0, 1) := by decide +kernel
theorem dX8_set_90 : decode cX8_set 90 = .ok (.iload_n 2, 1) := by decide +kernel
theorem dX8_set_91 : decode cX8_set 91 = .ok (.putfield 75, 3) := by decide +kernel
theorem dX8_set_94 : decode cX8_set 94 = .ok (.goto 21, 3) := by decide +kernel
theorem dX8_set_97 : decode cX8_set 97 = .ok (.iload_n 1, 1) := by decide +kernel
theorem dX8_set_98 : decode cX8_set 98 = .ok (.iconst 1, 1) := by decide +kernel
theorem dX8_set_99 : decode cX8_set 99 = .ok (.if_icmp .ne 11, 3) := by decide +kernel
theorem dX8_set_102 : decode cX8_set 102 = .ok (.aload_n 0, 1) := by decide +kernel
theorem dX8_set_103 : decode cX8_set 103 = .ok (.iload_n 2, 1) := by decide +kernel
theorem dX8_set_104 : decode cX8_set 104 = .ok (.putfield 78, 3) := by decide +kernel
theorem dX8_set_107 : decode cX8_set 107 = .ok (.goto 8, 3) := by decide +kernel
theorem dX8_set_110 : decode cX8_set 110 = .ok (.aload_n 0, 1) := by decide +kernel
theorem dX8_set_111 : decode cX8_set 111 = .ok (.iload_n 2, 1) := by decide +kernel
theorem dX8_set_112 : decode cX8_set 112 = .ok (.putfield 93, 3) := by decide +kernel
theorem dX8_set_115 : decode cX8_set 115 = .ok (.iload_n 3, 1) := by decide +kernel
theorem dX8_set_116 : decode cX8_set 116 = .ok (.ireturn, 1) := by decide +kernel
theorem dX8_price_0 : decode cX8_price 0 = .ok (.iload_n 1, 1) := by decide +kernel
theorem dX8_price_1 : decode cX8_price 1 = .ok (.i2l, 1) := by decide +kernel
theorem dX8_price_2 : decode cX8_price 2 = .ok (.lconst 1, 1) := by decide +kernel
theorem dX8_price_3 : decode cX8_price 3 = .ok (.aload_n 0, 1) := by decide +kernel
theorem dX8_price_4 : decode cX8_price 4 = .ok (.getfield 96, 3) := by decide +kernel
theorem dX8_price_7 : decode cX8_price 7 = .ok (.ifCond .ne 9, 3) := by decide +kernel
theorem dX8_price_10 : decode cX8_price 10 = .ok (.ldc2_w 91, 3) := by decide +kernel
theorem dX8_price_13 : decode cX8_price 13 = .ok (.goto 17, 3) := by decide +kernel
theorem dX8_price_16 : decode cX8_price 16 = .ok (.aload_n 0, 1) := by decide +kernel
theorem dX8_price_17 : decode cX8_price 17 = .ok (.getfield 7, 3) := by decide +kernel
theorem dX8_price_20 : decode cX8_price 20 = .ok (.aload_n 0, 1) := by decide +kernel
theorem dX8_price_21 : decode cX8_price 21 = .ok (.getfield 96, 3) := by decide +kernel
theorem dX8_price_24 : decode cX8_price 24 = .ok (.iconst 1, 1) := by decide +kernel
theorem dX8_price_25 : decode cX8_price 25 = .ok (.isub, 1) := by decide +kernel
theorem dX8_price_26 : decode cX8_price 26 = .ok (.iaload, 1) := by decide +kernel
theorem dX8_price_27 : decode cX8_price 27 = .ok (.iconst 1, 1) := by decide +kernel
theorem dX8_price_28 : decode cX8_price 28 = .ok (.isub, 1) := by decide +kernel
theorem dX8_price_29 : decode cX8_price 29 = .ok (.i2l, 1) := by decide +kernel
theorem dX8_price_30 : decode cX8_price 30 = .ok (.invokestatic 83, 3) := by decide +kernel
theorem dX8_price_33 : decode cX8_price 33 = .ok (.ifCond .ne 6, 3) := by decide +kernel
theorem dX8_price_36 : decode cX8_price 36 = .ok (.bipush (-2), 2) := by decide +kernel
theorem dX8_price_38 : decode cX8_price 38 = .ok (.ireturn, 1) := by decide +kernel
theorem dX8_price_39 : decode cX8_price 39 = .ok (.aload_n 0, 1) := by decide +kernel
theorem dX8_price_40 : decode cX8_price 40 = .ok (.getfield 96, 3) := by decide +kernel
theorem dX8_price_43 : decode cX8_price 43 = .ok (.iconst 5, 1) := by decide +kernel
theorem dX8_price_44 : decode cX8_price 44 = .ok (.if_icmp .ne 6, 3) := by decide +kernel
theorem dX8_price_47 : decode cX8_price 47 = .ok (.bipush (-4), 2) := by decide +kernel
theorem dX8_price_49 : decode cX8_price 49 = .ok (.ireturn, 1) := by decide +kernel
theorem dX8_price_50 : decode cX8_price 50 = .ok (.aload_n 0, 1) := by decide +kernel
theorem dX8_price_51 : decode cX8_price 51 = .ok (.getfield 7, 3) := by decide +kernel
theorem dX8_price_54 : decode cX8_price 54 = .ok (.aload_n 0, 1) := by decide +kernel
theorem dX8_price_55 : decode cX8_price 55 = .ok (.getfield 96, 3) := by decide +kernel
theorem dX8_price_58 : decode cX8_price 58 = .ok (.iload_n 1, 1) := by decide +kernel
theorem dX8_price_59 : decode cX8_price 59 = .ok (.iastore, 1) := by decide +kernel
theorem dX8_price_60 : decode cX8_price 60 = .ok (.aload_n 0, 1) := by decide +kernel
theorem dX8_price_61 : decode cX8_price 61 = .ok (.dup, 1) := by decide +kernel
theorem dX8_price_62 : decode cX8_price 62 = .ok (.getfield 96, 3) := by decide +kernel
theorem dX8_price_65 : decode cX8_price 65 = .ok (.iconst 1, 1) := by decide +kernel
theorem dX8_price_66 : decode cX8_price 66 = .ok (.iadd, 1) := by decide +kernel
theorem dX8_price_67 : decode cX8_price 67 = .ok (.putfield 96, 3) := by decide +kernel
theorem dX8_price_70 : decode cX8_price 70 = .ok (.aload_n 0, 1) := by decide +kernel
theorem dX8_price_71 : decode cX8_price 71 = .ok (.getfield 96, 3) := by decide +kernel
theorem dX8_price_74 : decode cX8_price 74 = .ok (.iconst 1, 1) := by decide +kernel
theorem dX8_price_75 : decode cX8_price 75 = .ok (.isub, 1) := by decide +kernel
theorem dX8_price_76 : decode cX8_price 76 = .ok (.ireturn, 1) := by decide +kernel
theorem dX8_sort_0 : decode cX8_sort 0 = .ok (.iload_n 1, 1) := by decide +kernel
theorem dX8_sort_1 : decode cX8_sort 1 = .ok (.i2l, 1) := by decide +kernel
theorem dX8_sort_2 : decode cX8_sort 2 = .ok (.lconst 0, 1) := by decide +kernel
theorem dX8_sort_3 : decode cX8_sort 3 = .ok (.ldc2_w 99, 3) := by decide +kernel
theorem dX8_sort_6 : decode cX8_sort 6 = .ok (.invokestatic 83, 3) := by decide +kernel
theorem dX8_sort_9 : decode cX8_sort 9 = .ok (.ifCond .eq 27, 3) := by decide +kernel
theorem dX8_sort_12 : decode cX8_sort 12 = .ok (.iload_n 2, 1) := by decide +kernel
theorem dX8_sort_13 : decode cX8_sort 13 = .ok (.i2l, 1) := by decide +kernel
theorem dX8_sort_14 : decode cX8_sort 14 = .ok (.lconst 0, 1) := by decide +kernel
theorem dX8_sort_15 : decode cX8_sort 15 = .ok (.ldc2_w 91, 3) := by decide +kernel
theorem dX8_sort_18 : decode cX8_sort 18 = .ok (.invokestatic 83, 3) := by decide +kernel
theorem dX8_sort_21 : decode cX8_sort 21 = .ok (.ifCond .eq 15, 3) := by decide +kernel
theorem dX8_sort_24 : decode cX8_sort 24 = .ok (.iload_n 3, 1) := by decide +kernel
theorem dX8_sort_25 : decode cX8_sort 25 = .ok (.i2l, 1) := by decide +kernel
theorem dX8_sort_26 : decode cX8_sort 26 = .ok (.lconst 0, 1) := by decide +kernel
theorem dX8_sort_27 : decode cX8_sort 27 = .ok (.ldc2_w 101, 3) := by decide +kernel
theorem dX8_sort_30 : decode cX8_sort 30 = .ok (.invokestatic 83, 3) := by decide +kernel
theorem dX8_sort_33 : decode cX8_sort 33 = .ok (.ifCond .ne 6, 3) := by decide +kernel
theorem dX8_sort_36 : decode cX8_sort 36 = .ok (.bipush (-2), 2) := by decide +kernel
theorem dX8_sort_38 : decode cX8_sort 38 = .ok (.ireturn, 1) := by decide +kernel
theorem dX8_sort_39 : decode cX8_sort 39 = .ok (.aload_n 0, 1) := by decide +kernel
theorem dX8_sort_40 : decode cX8_sort 40 = .ok (.getfield 103, 3) := by decide +kernel
theorem dX8_sort_43 : decode cX8_sort 43 = .ok (.iconst 3, 1) := by decide +kernel
theorem dX8_sort_44 : decode cX8_sort 44 = .ok (.if_icmp .ne 6, 3) := by decide +kernel
theorem dX8_sort_47 : decode cX8_sort 47 = .ok (.bipush (-4), 2) := by decide +kernel
theorem dX8_sort_49 : decode cX8_sort 49 = .ok (.ireturn, 1) := by decide +kernel
theorem dX8_sort_50 : decode cX8_sort 50 = .ok (.aload_n 0, 1) := by decide +kernel
theorem dX8_sort_51 : decode cX8_sort 51 = .ok (.getfield 13, 3) := by decide +kernel
theorem dX8_sort_54 : decode cX8_sort 54 = .ok (.aload_n 0, 1) := by decide +kernel
theorem dX8_sort_55 : decode cX8_sort 55 = .ok (.getfield 103, 3) := by decide +kernel
theorem dX8_sort_58 : decode cX8_sort 58 = .ok (.iload_n 1, 1) := by decide +kernel
theorem dX8_sort_59 : decode cX8_sort 59 = .ok (.iastore, 1) := by decide +kernel
theorem dX8_sort_60 : decode cX8_sort 60 = .ok (.aload_n 0, 1) := by decide +kernel
theorem dX8_sort_61 : decode cX8_sort 61 = .ok (.getfield 16, 3) := by decide +kernel
theorem dX8_sort_64 : decode cX8_sort 64 = .ok (.aload_n 0, 1) := by decide +kernel
theorem dX8_sort_65 : decode cX8_sort 65 = .ok (.getfield 103, 3) := by decide +kernel
theorem dX8_sort_68 : decode cX8_sort 68 = .ok (.iload_n 2, 1) := by decide +kernel
theorem dX8_sort_69 : decode cX8_sort 69 = .ok (.iastore, 1) := by decide +kernel
theorem dX8_sort_70 : decode cX8_sort 70 = .ok (.aload_n 0, 1) := by decide +kernel
theorem dX8_sort_71 : decode cX8_sort 71 = .ok (.getfield 19, 3) := by decide +kernel
theorem dX8_sort_74 : decode cX8_sort 74 = .ok (.aload_n 0, 1) := by decide +kernel
theorem dX8_sort_75 : decode cX8_sort 75 = .ok (.getfield 103, 3) := by decide +kernel
theorem dX8_sort_78 : decode cX8_sort 78 = .ok (.iload_n 3, 1) := by decide +kernel
theorem dX8_sort_79 : decode cX8_sort 79 = .ok (.iastore, 1) := by decide +kernel
theorem dX8_sort_80 : decode cX8_sort 80 = .ok (.aload_n 0, 1) := by decide +kernel
theorem dX8_sort_81 : decode cX8_sort 81 = .ok (.getfield 22, 3) := by decide +kernel
theorem dX8_sort_84 : decode cX8_sort 84 = .ok (.aload_n 0, 1) := by decide +kernel
theorem dX8_sort_85 : decode cX8_sort 85 = .ok (.getfield 103, 3) := by decide +kernel
theorem dX8_sort_88 : decode cX8_sort 88 = .ok (.iconst (-1), 1) := by decide +kernel
theorem dX8_sort_89 : decode cX8_sort 89 = .ok (.iastore, 1) := by decide +kernel
theorem dX8_sort_90 : decode cX8_sort 90 = .ok (.aload_n 0, 1) := by decide +kernel
theorem dX8_sort_91 : decode cX8_sort 91 = .ok (.dup, 1) := by decide +kernel
theorem dX8_sort_92 : decode cX8_sort 92 = .ok (.getfield 103, 3) := by decide +kernel
theorem dX8_sort_95 : decode cX8_sort 95 = .ok (.iconst 1, 1) := by decide +kernel
theorem dX8_sort_96 : decode cX8_sort 96 = .ok (.iadd, 1) := by decide +kernel
theorem dX8_sort_97 : decode cX8_sort 97 = .ok (.putfield 103, 3) := by decide +kernel
theorem dX8_sort_100 : decode cX8_sort 100 = .ok (.aload_n 0, 1) := by decide +kernel
theorem dX8_sort_101 : decode cX8_sort 101 = .ok (.getfield 103, 3) := by decide +kernel
theorem dX8_sort_104 : decode cX8_sort 104 = .ok (.iconst 1, 1) := by decide +kernel
theorem dX8_sort_105 : decode cX8_sort 105 = .ok (.isub, 1) := by decide +kernel
theorem dX8_sort_106 : decode cX8_sort 106 = .ok (.ireturn, 1) := by decide +kernel
theorem dX8_isSort_0 : decode cX8_isSort 0 = .ok (.iload_n 1, 1) := by decide +kernel
theorem dX8_isSort_1 : decode cX8_isSort 1 = .ok (.i2l, 1) := by decide +kernel
theorem dX8_isSort_2 : decode cX8_isSort 2 = .ok (.lconst 0, 1) := by decide +kernel
theorem dX8_isSort_3 : decode cX8_isSort 3 = .ok (.aload_n 0, 1) := by decide +kernel
theorem dX8_isSort_4 : decode cX8_isSort 4 = .ok (.getfield 103, 3) := by decide +kernel
theorem dX8_isSort_7 : decode cX8_isSort 7 = .ok (.iconst 1, 1) := by decide +kernel
theorem dX8_isSort_8 : decode cX8_isSort 8 = .ok (.isub, 1) := by decide +kernel
theorem dX8_isSort_9 : decode cX8_isSort 9 = .ok (.i2l, 1) := by decide +kernel
theorem dX8_isSort_10 : decode cX8_isSort 10 = .ok (.invokestatic 83, 3) := by decide +kernel
theorem dX8_isSort_13 : decode cX8_isSort 13 = .ok (.ireturn, 1) := by decide +kernel
theorem dX8_change_0 : decode cX8_change 0 = .ok (.aload_n 0, 1) := by decide +kernel
theorem dX8_change_1 : decode cX8_change 1 = .ok (.iload_n 1, 1) := by decide +kernel
theorem dX8_change_2 : decode cX8_change 2 = .ok (.invokevirtual 106, 3) := by decide +kernel
theorem dX8_change_5 : decode cX8_change 5 = .ok (.ifCond .ne 5, 3) := by decide +kernel
theorem dX8_change_8 : decode cX8_change 8 = .ok (.iconst (-1), 1) := by decide +kernel
theorem dX8_change_9 : decode cX8_change 9 = .ok (.ireturn, 1) := by decide +kernel
theorem dX8_change_10 : decode cX8_change 10 = .ok (.iload_n 2, 1) := by decide +kernel
theorem dX8_change_11 : decode cX8_change 11 = .ok (.i2l, 1) := by decide +kernel
theorem dX8_change_12 : decode cX8_change 12 = .ok (.lconst 0, 1) := by decide +kernel
theorem dX8_change_13 : decode cX8_change 13 = .ok (.ldc2_w 110, 3) := by decide +kernel
theorem dX8_change_16 : decode cX8_change 16 = .ok (.invokestatic 83, 3) := by decide +kernel
theorem dX8_change_19 : decode cX8_change 19 = .ok (.ifCond .eq 47, 3) := by decide +kernel
theorem dX8_change_22 : decode cX8_change 22 = .ok (.iload_n 3, 1) := by decide +kernel
theorem dX8_change_23 : decode cX8_change 23 = .ok (.i2l, 1) := by decide +kernel
theorem dX8_change_24 : decode cX8_change 24 = .ok (.iload_n 2, 1) := by decide +kernel
theorem dX8_change_25 : decode cX8_change 25 = .ok (.iconst 3, 1) := by decide +kernel
theorem dX8_change_26 : decode cX8_change 26 = .ok (.if_icmp .ne 9, 3) := by decide +kernel
theorem dX8_change_29 : decode cX8_change 29 = .ok (.ldc2_w 112, 3) := by decide +kernel
theorem dX8_change_32 : decode cX8_change 32 = .ok (.goto 4, 3) := by decide +kernel
theorem dX8_change_35 : decode cX8_change 35 = .ok (.lconst 0, 1) := by decide +kernel
theorem dX8_change_36 : decode cX8_change 36 = .ok (.iload_n 2, 1) := by decide +kernel
theorem dX8_change_37 : decode cX8_change 37 = .ok (.ifCond .ne 9, 3) := by decide +kernel
theorem dX8_change_40 : decode cX8_change 40 = .ok (.ldc2_w 99, 3) := by decide +kernel
theorem dX8_change_43 : decode cX8_change 43 = .ok (.goto 17, 3) := by decide +kernel
theorem dX8_change_46 : decode cX8_change 46 = .ok (.iload_n 2, 1) := by decide +kernel
theorem dX8_change_47 : decode cX8_change 47 = .ok (.iconst 1, 1) := by decide +kernel
theorem dX8_change_48 : decode cX8_change 48 = .ok (.if_icmp .ne 9, 3) := by decide +kernel
theorem dX8_change_51 : decode cX8_change 51 = .ok (.ldc2_w 91, 3) := by decide +kernel
theorem dX8_change_54 : decode cX8_change 54 = .ok (.goto 6, 3) := by decide +kernel
theorem dX8_change_57 : decode cX8_change 57 = .ok (.ldc2_w 101, 3) := by decide +kernel
theorem dX8_change_60 : decode cX8_change 60 = .ok (.invokestatic 83, 3) := by decide +kernel
theorem dX8_change_63 : decode cX8_change 63 = .ok (.ifCond .ne 6, 3) := by decide +kernel
theorem dX8_change_66 : decode cX8_change 66 = .ok (.bipush (-2), 2) := by decide +kernel
theorem dX8_change_68 : decode cX8_change 68 = .ok (.ireturn, 1) := by decide +kernel
theorem dX8_change_69 : decode cX8_change 69 = .ok (.iload_n 2, 1) := by decide +kernel
theorem dX8_change_70 : decode cX8_change 70 = .ok (.ifCond .ne 12, 3) := by decide +kernel
theorem dX8_change_73 : decode cX8_change 73 = .ok (.aload_n 0, 1) := by decide +kernel
theorem dX8_change_74 : decode cX8_change 74 = .ok (.getfield 13, 3) := by decide +kernel
theorem dX8_change_77 : decode cX8_change 77 = .ok (.iload_n 1, 1) := by decide +kernel
theorem dX8_change_78 : decode cX8_change 78 = .ok (.iaload, 1) := by decide +kernel
theorem dX8_change_79 : decode cX8_change 79 = .ok (.goto 51, 3) := by decide +kernel
theorem dX8_change_82 : decode cX8_change 82 = .ok (.iload_n 2, 1) := by decide +kernel
theorem dX8_change_83 : decode cX8_change 83 = .ok (.iconst 1, 1) := by decide +kernel
theorem dX8_change_84 : decode cX8_change 84 = .ok (.if_icmp .ne 12, 3) := by decide +kernel
theorem dX8_change_87 : decode cX8_change 87 = .ok (.aload_n 0, 1) := by decide +kernel
theorem dX8_change_88 : decode cX8_change 88 = .ok (.getfield 16, 3) := by decide +kernel
theorem dX8_change_91 : decode cX8_change 91 = .ok (.iload_n 1, 1) := by decide +kernel
theorem dX8_change_92 : decode cX8_change 92 = .ok (.iaload, 1) := by decide +kernel
theorem dX8_change_93 : decode cX8_change 93 = .ok (.goto 37, 3) := by decide +kernel
theorem dX8_change_96 : decode cX8_change 96 = .ok (.iload_n 2, 1) := by decide +kernel
theorem dX8_change_97 : decode cX8_change 97 = .ok (.iconst 2, 1) := by decide +kernel
theorem dX8_change_98 : decode cX8_change 98 = .ok (.if_icmp .ne 12, 3) := by decide +kernel
theorem dX8_change_101 : decode cX8_change 101 = .ok (.aload_n 0, 1) := by decide +kernel
theorem dX8_change_102 : decode cX8_change 102 = .ok (.getfield 19, 3) := by decide +kernel
theorem dX8_change_105 : decode cX8_change 105 = .ok (.iload_n 1, 1) := by decide +kernel
theorem dX8_change_106 : decode cX8_change 106 = .ok (.iaload, 1) := by decide +kernel
theorem dX8_change_107 : decode cX8_change 107 = .ok (.goto 23, 3) := by decide +kernel
theorem dX8_change_110 : decode cX8_change 110 = .ok (.aload_n 0, 1) := by decide +kernel
theorem dX8_change_111 : decode cX8_change 111 = .ok (.getfield 22, 3) := by decide +kernel
theorem dX8_change_114 : decode cX8_change 114 = .ok (.iload_n 1, 1) := by decide +kernel
theorem dX8_change_115 : decode cX8_change 115 = .ok (.iaload, 1) := by decide +kernel
theorem dX8_change_116 : decode cX8_change 116 = .ok (.ifCond .ge 8, 3) := by decide +kernel
theorem dX8_change_119 : decode cX8_change 119 = .ok (.bipush (-6), 2) := by decide +kernel
theorem dX8_change_121 : decode cX8_change 121 = .ok (.goto 9, 3) := by decide +kernel
theorem dX8_change_124 : decode cX8_change 124 = .ok (.aload_n 0, 1) := by decide +kernel
theorem dX8_change_125 : decode cX8_change 125 = .ok (.getfield 22, 3) := by decide +kernel
theorem dX8_change_128 : decode cX8_change 128 = .ok (.iload_n 1, 1) := by decide +kernel
theorem dX8_change_129 : decode cX8_change 129 = .ok (.iaload, 1) := by decide +kernel
theorem dX8_change_130 : decode cX8_change 130 = .ok (.istore 4, 2) := by decide +kernel
theorem dX8_change_132 : decode cX8_change 132 = .ok (.iload_n 2, 1) := by decide +kernel
theorem dX8_change_133 : decode cX8_change 133 = .ok (.ifCond .ne 13, 3) := by decide +kernel
theorem dX8_change_136 : decode cX8_change 136 = .ok (.aload_n 0, 1) := by decide +kernel
theorem dX8_change_137 : decode cX8_change 137 = .ok (.getfield 13, 3) := by decide +kernel
theorem dX8_change_140 : decode cX8_change 140 = .ok (.iload_n 1, 1) := by decide +kernel
theorem dX8_change_141 : decode cX8_change 141 = .ok (.iload_n 3, 1) := by decide +kernel
theorem dX8_change_142 : decode cX8_change 142 = .ok (.iastore, 1) := by decide +kernel
theorem dX8_change_143 : decode cX8_change 143 = .ok (.goto 40, 3) := by decide +kernel
theorem dX8_change_146 : decode cX8_change 146 = .ok (.iload_n 2, 1) := by decide +kernel
theorem dX8_change_147 : decode cX8_change 147 = .ok (.iconst 1, 1) := by decide +kernel
theorem dX8_change_148 : decode cX8_change 148 = .ok (.if_icmp .ne 13, 3) := by decide +kernel
theorem dX8_change_151 : decode cX8_change 151 = .ok (.aload_n 0, 1) := by decide +kernel
theorem dX8_change_152 : decode cX8_change 152 = .ok (.getfield 16, 3) := by decide +kernel
theorem dX8_change_155 : decode cX8_change 155 = .ok (.iload_n 1, 1) := by decide +kernel
theorem dX8_change_156 : decode cX8_change 156 = .ok (.iload_n 3, 1) := by decide +kernel
theorem dX8_change_157 : decode cX8_change 157 = .ok (.iastore, 1) := by decide +kernel
theorem dX8_change_158 : decode cX8_change 158 = .ok (.goto 25, 3) := by decide +kernel
theorem dX8_change_161 : decode cX8_change 161 = .ok (.iload_n 2, 1) := by decide +kernel
theorem dX8_change_162 : decode cX8_change 162 = .ok (.iconst 2, 1) := by decide +kernel
theorem dX8_change_163 : decode cX8_change 163 = .ok (.if_icmp .ne 13, 3) := by decide +kernel
theorem dX8_change_166 : decode cX8_change 166 = .ok (.aload_n 0, 1) := by decide +kernel
theorem dX8_change_167 : decode cX8_change 167 = .ok (.getfield 19, 3) := by decide +kernel
theorem dX8_change_170 : decode cX8_change 170 = .ok (.iload_n 1, 1) := by decide +kernel
theorem dX8_change_171 : decode cX8_change 171 = .ok (.iload_n 3, 1) := by decide +kernel
theorem dX8_change_172 : decode cX8_change 172 = .ok (.iastore, 1) := by decide +kernel
theorem dX8_change_173 : decode cX8_change 173 = .ok (.goto 10, 3) := by decide +kernel
theorem dX8_change_176 : decode cX8_change 176 = .ok (.aload_n 0, 1) := by decide +kernel
theorem dX8_change_177 : decode cX8_change 177 = .ok (.getfield 22, 3) := by decide +kernel
theorem dX8_change_180 : decode cX8_change 180 = .ok (.iload_n 1, 1) := by decide +kernel
theorem dX8_change_181 : decode cX8_change 181 = .ok (.iload_n 3, 1) := by decide +kernel
theorem dX8_change_182 : decode cX8_change 182 = .ok (.iastore, 1) := by decide +kernel
theorem dX8_change_183 : decode cX8_change 183 = .ok (.iload 4, 2) := by decide +kernel
theorem dX8_change_185 : decode cX8_change 185 = .ok (.ireturn, 1) := by decide +kernel
theorem dX8_worthOf_0 : decode cX8_worthOf 0 = .ok (.aload_n 0, 1) := by decide +kernel
theorem dX8_worthOf_1 : decode cX8_worthOf 1 = .ok (.getfield 16, 3) := by decide +kernel
theorem dX8_worthOf_4 : decode cX8_worthOf 4 = .ok (.iload_n 1, 1) := by decide +kernel
theorem dX8_worthOf_5 : decode cX8_worthOf 5 = .ok (.iaload, 1) := by decide +kernel
theorem dX8_worthOf_6 : decode cX8_worthOf 6 = .ok (.aload_n 0, 1) := by decide +kernel
theorem dX8_worthOf_7 : decode cX8_worthOf 7 = .ok (.getfield 19, 3) := by decide +kernel
theorem dX8_worthOf_10 : decode cX8_worthOf 10 = .ok (.iload_n 1, 1) := by decide +kernel
theorem dX8_worthOf_11 : decode cX8_worthOf 11 = .ok (.iaload, 1) := by decide +kernel
theorem dX8_worthOf_12 : decode cX8_worthOf 12 = .ok (.iload_n 2, 1) := by decide +kernel
theorem dX8_worthOf_13 : decode cX8_worthOf 13 = .ok (.imul, 1) := by decide +kernel
theorem dX8_worthOf_14 : decode cX8_worthOf 14 = .ok (.isub, 1) := by decide +kernel
theorem dX8_worthOf_15 : decode cX8_worthOf 15 = .ok (.istore_n 3, 1) := by decide +kernel
theorem dX8_worthOf_16 : decode cX8_worthOf 16 = .ok (.iload_n 3, 1) := by decide +kernel
theorem dX8_worthOf_17 : decode cX8_worthOf 17 = .ok (.ifCond .ge 7, 3) := by decide +kernel
theorem dX8_worthOf_20 : decode cX8_worthOf 20 = .ok (.iconst 0, 1) := by decide +kernel
theorem dX8_worthOf_21 : decode cX8_worthOf 21 = .ok (.goto 4, 3) := by decide +kernel
theorem dX8_worthOf_24 : decode cX8_worthOf 24 = .ok (.iload_n 3, 1) := by decide +kernel
theorem dX8_worthOf_25 : decode cX8_worthOf 25 = .ok (.ireturn, 1) := by decide +kernel
theorem dX8_worth_0 : decode cX8_worth 0 = .ok (.aload_n 0, 1) := by decide +kernel
theorem dX8_worth_1 : decode cX8_worth 1 = .ok (.iload_n 1, 1) := by decide +kernel
theorem dX8_worth_2 : decode cX8_worth 2 = .ok (.invokevirtual 106, 3) := by decide +kernel
theorem dX8_worth_5 : decode cX8_worth 5 = .ok (.ifCond .ne 5, 3) := by decide +kernel
theorem dX8_worth_8 : decode cX8_worth 8 = .ok (.iconst (-1), 1) := by decide +kernel
theorem dX8_worth_9 : decode cX8_worth 9 = .ok (.ireturn, 1) := by decide +kernel
theorem dX8_worth_10 : decode cX8_worth 10 = .ok (.iload_n 2, 1) := by decide +kernel
theorem dX8_worth_11 : decode cX8_worth 11 = .ok (.i2l, 1) := by decide +kernel
theorem dX8_worth_12 : decode cX8_worth 12 = .ok (.lconst 0, 1) := by decide +kernel
theorem dX8_worth_13 : decode cX8_worth 13 = .ok (.ldc2_w 114, 3) := by decide +kernel
theorem dX8_worth_16 : decode cX8_worth 16 = .ok (.invokestatic 83, 3) := by decide +kernel
theorem dX8_worth_19 : decode cX8_worth 19 = .ok (.ifCond .eq 12, 3) := by decide +kernel
theorem dX8_worth_22 : decode cX8_worth 22 = .ok (.aload_n 0, 1) := by decide +kernel
theorem dX8_worth_23 : decode cX8_worth 23 = .ok (.iload_n 1, 1) := by decide +kernel
theorem dX8_worth_24 : decode cX8_worth 24 = .ok (.iload_n 2, 1) := by decide +kernel
theorem dX8_worth_25 : decode cX8_worth 25 = .ok (.invokevirtual 116, 3) := by decide +kernel
theorem dX8_worth_28 : decode cX8_worth 28 = .ok (.goto 5, 3) := by decide +kernel
theorem dX8_worth_31 : decode cX8_worth 31 = .ok (.bipush (-2), 2) := by decide +kernel
theorem dX8_worth_33 : decode cX8_worth 33 = .ok (.ireturn, 1) := by decide +kernel
theorem dX8_power_0 : decode cX8_power 0 = .ok (.lconst 1, 1) := by decide +kernel
theorem dX8_power_1 : decode cX8_power 1 = .ok (.iconst 2, 1) := by decide +kernel
theorem dX8_power_2 : decode cX8_power 2 = .ok (.iload_n 0, 1) := by decide +kernel
theorem dX8_power_3 : decode cX8_power 3 = .ok (.imul, 1) := by decide +kernel
theorem dX8_power_4 : decode cX8_power 4 = .ok (.lshl, 1) := by decide +kernel
theorem dX8_power_5 : decode cX8_power 5 = .ok (.lreturn, 1) := by decide +kernel
theorem dX8_lowest_0 : decode cX8_lowest 0 = .ok (.lload_n 0, 1) := by decide +kernel
theorem dX8_lowest_1 : decode cX8_lowest 1 = .ok (.lconst 0, 1) := by decide +kernel
theorem dX8_lowest_2 : decode cX8_lowest 2 = .ok (.lcmp, 1) := by decide +kernel
theorem dX8_lowest_3 : decode cX8_lowest 3 = .ok (.ifCond .ge 8, 3) := by decide +kernel
theorem dX8_lowest_6 : decode cX8_lowest 6 = .ok (.lload_n 0, 1) := by decide +kernel
theorem dX8_lowest_7 : decode cX8_lowest 7 = .ok (.lneg, 1) := by decide +kernel
theorem dX8_lowest_8 : decode cX8_lowest 8 = .ok (.goto 4, 3) := by decide +kernel
theorem dX8_lowest_11 : decode cX8_lowest 11 = .ok (.lload_n 0, 1) := by decide +kernel
theorem dX8_lowest_12 : decode cX8_lowest 12 = .ok (.lstore 5, 2) := by decide +kernel
theorem dX8_lowest_14 : decode cX8_lowest 14 = .ok (.lload_n 2, 1) := by decide +kernel
theorem dX8_lowest_15 : decode cX8_lowest 15 = .ok (.lstore 7, 2) := by decide +kernel
theorem dX8_lowest_17 : decode cX8_lowest 17 = .ok (.lload 7, 2) := by decide +kernel
theorem dX8_lowest_19 : decode cX8_lowest 19 = .ok (.lconst 0, 1) := by decide +kernel
theorem dX8_lowest_20 : decode cX8_lowest 20 = .ok (.lcmp, 1) := by decide +kernel
theorem dX8_lowest_21 : decode cX8_lowest 21 = .ok (.ifCond .eq 21, 3) := by decide +kernel
theorem dX8_lowest_24 : decode cX8_lowest 24 = .ok (.lload 5, 2) := by decide +kernel
theorem dX8_lowest_26 : decode cX8_lowest 26 = .ok (.lload 7, 2) := by decide +kernel
theorem dX8_lowest_28 : decode cX8_lowest 28 = .ok (.lrem, 1) := by decide +kernel
theorem dX8_lowest_29 : decode cX8_lowest 29 = .ok (.lstore 9, 2) := by decide +kernel
theorem dX8_lowest_31 : decode cX8_lowest 31 = .ok (.lload 7, 2) := by decide +kernel
theorem dX8_lowest_33 : decode cX8_lowest 33 = .ok (.lstore 5, 2) := by decide +kernel
theorem dX8_lowest_35 : decode cX8_lowest 35 = .ok (.lload 9, 2) := by decide +kernel
theorem dX8_lowest_37 : decode cX8_lowest 37 = .ok (.lstore 7, 2) := by decide +kernel
theorem dX8_lowest_39 : decode cX8_lowest 39 = .ok (.goto (-22), 3) := by decide +kernel
theorem dX8_lowest_42 : decode cX8_lowest 42 = .ok (.iload 4, 2) := by decide +kernel
theorem dX8_lowest_44 : decode cX8_lowest 44 = .ok (.ifCond .ne 10, 3) := by decide +kernel
theorem dX8_lowest_47 : decode cX8_lowest 47 = .ok (.lload_n 0, 1) := by decide +kernel
theorem dX8_lowest_48 : decode cX8_lowest 48 = .ok (.lload 5, 2) := by decide +kernel
theorem dX8_lowest_50 : decode cX8_lowest 50 = .ok (.ldiv, 1) := by decide +kernel
theorem dX8_lowest_51 : decode cX8_lowest 51 = .ok (.goto 7, 3) := by decide +kernel
theorem dX8_lowest_54 : decode cX8_lowest 54 = .ok (.lload_n 2, 1) := by decide +kernel
theorem dX8_lowest_55 : decode cX8_lowest 55 = .ok (.lload 5, 2) := by decide +kernel
theorem dX8_lowest_57 : decode cX8_lowest 57 = .ok (.ldiv, 1) := by decide +kernel
theorem dX8_lowest_58 : decode cX8_lowest 58 = .ok (.lreturn, 1) := by decide +kernel
theorem dX8_isPart_0 : decode cX8_isPart 0 = .ok (.iload_n 0, 1) := by decide +kernel
theorem dX8_isPart_1 : decode cX8_isPart 1 = .ok (.i2l, 1) := by decide +kernel
theorem dX8_isPart_2 : decode cX8_isPart 2 = .ok (.lconst 0, 1) := by decide +kernel
theorem dX8_isPart_3 : decode cX8_isPart 3 = .ok (.lconst 1, 1) := by decide +kernel
theorem dX8_isPart_4 : decode cX8_isPart 4 = .ok (.invokestatic 83, 3) := by decide +kernel
theorem dX8_isPart_7 : decode cX8_isPart 7 = .ok (.ireturn, 1) := by decide +kernel
theorem dX8_beginEnd_0 : decode cX8_beginEnd 0 = .ok (.aload_n 0, 1) := by decide +kernel
theorem dX8_beginEnd_1 : decode cX8_beginEnd 1 = .ok (.lconst 1, 1) := by decide +kernel
theorem dX8_beginEnd_2 : decode cX8_beginEnd 2 = .ok (.putfield 120, 3) := by decide +kernel
theorem dX8_beginEnd_5 : decode cX8_beginEnd 5 = .ok (.iconst 0, 1) := by decide +kernel
theorem dX8_beginEnd_6 : decode cX8_beginEnd 6 = .ok (.istore_n 1, 1) := by decide +kernel
theorem dX8_beginEnd_7 : decode cX8_beginEnd 7 = .ok (.iload_n 1, 1) := by decide +kernel
theorem dX8_beginEnd_8 : decode cX8_beginEnd 8 = .ok (.bipush 12, 2) := by decide +kernel
theorem dX8_beginEnd_10 : decode cX8_beginEnd 10 = .ok (.if_icmp .gt 23, 3) := by decide +kernel
theorem dX8_beginEnd_13 : decode cX8_beginEnd 13 = .ok (.aload_n 0, 1) := by decide +kernel
theorem dX8_beginEnd_14 : decode cX8_beginEnd 14 = .ok (.getfield 28, 3) := by decide +kernel
theorem dX8_beginEnd_17 : decode cX8_beginEnd 17 = .ok (.iload_n 1, 1) := by decide +kernel
theorem dX8_beginEnd_18 : decode cX8_beginEnd 18 = .ok (.aload_n 0, 1) := by decide +kernel
theorem dX8_beginEnd_19 : decode cX8_beginEnd 19 = .ok (.getfield 93, 3) := by decide +kernel
theorem dX8_beginEnd_22 : decode cX8_beginEnd 22 = .ok (.i2l, 1) := by decide +kernel
theorem dX8_beginEnd_23 : decode cX8_beginEnd 23 = .ok (.iload_n 1, 1) := by decide +kernel
theorem dX8_beginEnd_24 : decode cX8_beginEnd 24 = .ok (.i2l, 1) := by decide +kernel
theorem dX8_beginEnd_25 : decode cX8_beginEnd 25 = .ok (.lmul, 1) := by decide +kernel
theorem dX8_beginEnd_26 : decode cX8_beginEnd 26 = .ok (.lastore, 1) := by decide +kernel
theorem dX8_beginEnd_27 : decode cX8_beginEnd 27 = .ok (.iinc 1 1, 3) := by decide +kernel
theorem dX8_beginEnd_30 : decode cX8_beginEnd 30 = .ok (.goto (-23), 3) := by decide +kernel
theorem dX8_beginEnd_33 : decode cX8_beginEnd 33 = .ok (.return_, 1) := by decide +kernel
theorem dX8_buyer_0 : decode cX8_buyer 0 = .ok (.bipush 12, 2) := by decide +kernel
theorem dX8_buyer_2 : decode cX8_buyer 2 = .ok (.istore_n 3, 1) := by decide +kernel
theorem dX8_buyer_3 : decode cX8_buyer 3 = .ok (.iload_n 3, 1) := by decide +kernel
theorem dX8_buyer_4 : decode cX8_buyer 4 = .ok (.ifCond .lt 79, 3) := by decide +kernel
theorem dX8_buyer_7 : decode cX8_buyer 7 = .ok (.iload_n 3, 1) := by decide +kernel
theorem dX8_buyer_8 : decode cX8_buyer 8 = .ok (.ifCond .le 11, 3) := by decide +kernel
theorem dX8_buyer_11 : decode cX8_buyer 11 = .ok (.iload_n 1, 1) := by decide +kernel
theorem dX8_buyer_12 : decode cX8_buyer 12 = .ok (.ifCond .le 7, 3) := by decide +kernel
theorem dX8_buyer_15 : decode cX8_buyer 15 = .ok (.iconst 1, 1) := by decide +kernel
theorem dX8_buyer_16 : decode cX8_buyer 16 = .ok (.goto 4, 3) := by decide +kernel
theorem dX8_buyer_19 : decode cX8_buyer 19 = .ok (.iconst 0, 1) := by decide +kernel
theorem dX8_buyer_20 : decode cX8_buyer 20 = .ok (.istore 4, 2) := by decide +kernel
theorem dX8_buyer_22 : decode cX8_buyer 22 = .ok (.aload_n 0, 1) := by decide +kernel
theorem dX8_buyer_23 : decode cX8_buyer 23 = .ok (.getfield 28, 3) := by decide +kernel
theorem dX8_buyer_26 : decode cX8_buyer 26 = .ok (.iload_n 3, 1) := by decide +kernel
theorem dX8_buyer_27 : decode cX8_buyer 27 = .ok (.iload 4, 2) := by decide +kernel
theorem dX8_buyer_29 : decode cX8_buyer 29 = .ok (.ifCond .eq 37, 3) := by decide +kernel
theorem dX8_buyer_32 : decode cX8_buyer 32 = .ok (.iload_n 1, 1) := by decide +kernel
theorem dX8_buyer_33 : decode cX8_buyer 33 = .ok (.i2l, 1) := by decide +kernel
theorem dX8_buyer_34 : decode cX8_buyer 34 = .ok (.iload_n 2, 1) := by decide +kernel
theorem dX8_buyer_35 : decode cX8_buyer 35 = .ok (.i2l, 1) := by decide +kernel
theorem dX8_buyer_36 : decode cX8_buyer 36 = .ok (.aload_n 0, 1) := by decide +kernel
theorem dX8_buyer_37 : decode cX8_buyer 37 = .ok (.getfield 120, 3) := by decide +kernel
theorem dX8_buyer_40 : decode cX8_buyer 40 = .ok (.lmul, 1) := by decide +kernel
theorem dX8_buyer_41 : decode cX8_buyer 41 = .ok (.aload_n 0, 1) := by decide +kernel
theorem dX8_buyer_42 : decode cX8_buyer 42 = .ok (.getfield 28, 3) := by decide +kernel
theorem dX8_buyer_45 : decode cX8_buyer 45 = .ok (.iload_n 3, 1) := by decide +kernel
theorem dX8_buyer_46 : decode cX8_buyer 46 = .ok (.iconst 1, 1) := by decide +kernel
theorem dX8_buyer_47 : decode cX8_buyer 47 = .ok (.isub, 1) := by decide +kernel
theorem dX8_buyer_48 : decode cX8_buyer 48 = .ok (.laload, 1) := by decide +kernel
theorem dX8_buyer_49 : decode cX8_buyer 49 = .ok (.ladd, 1) := by decide +kernel
theorem dX8_buyer_50 : decode cX8_buyer 50 = .ok (.lmul, 1) := by decide +kernel
theorem dX8_buyer_51 : decode cX8_buyer 51 = .ok (.iconst 4, 1) := by decide +kernel
theorem dX8_buyer_52 : decode cX8_buyer 52 = .ok (.iload_n 1, 1) := by decide +kernel
theorem dX8_buyer_53 : decode cX8_buyer 53 = .ok (.isub, 1) := by decide +kernel
theorem dX8_buyer_54 : decode cX8_buyer 54 = .ok (.i2l, 1) := by decide +kernel
theorem dX8_buyer_55 : decode cX8_buyer 55 = .ok (.aload_n 0, 1) := by decide +kernel
theorem dX8_buyer_56 : decode cX8_buyer 56 = .ok (.getfield 28, 3) := by decide +kernel
theorem dX8_buyer_59 : decode cX8_buyer 59 = .ok (.iload_n 3, 1) := by decide +kernel
theorem dX8_buyer_60 : decode cX8_buyer 60 = .ok (.laload, 1) := by decide +kernel
theorem dX8_buyer_61 : decode cX8_buyer 61 = .ok (.lmul, 1) := by decide +kernel
theorem dX8_buyer_62 : decode cX8_buyer 62 = .ok (.ladd, 1) := by decide +kernel
theorem dX8_buyer_63 : decode cX8_buyer 63 = .ok (.goto 13, 3) := by decide +kernel
theorem dX8_buyer_66 : decode cX8_buyer 66 = .ok (.ldc2_w 99, 3) := by decide +kernel
theorem dX8_buyer_69 : decode cX8_buyer 69 = .ok (.aload_n 0, 1) := by decide +kernel
theorem dX8_buyer_70 : decode cX8_buyer 70 = .ok (.getfield 28, 3) := by decide +kernel
theorem dX8_buyer_73 : decode cX8_buyer 73 = .ok (.iload_n 3, 1) := by decide +kernel
theorem dX8_buyer_74 : decode cX8_buyer 74 = .ok (.laload, 1) := by decide +kernel
theorem dX8_buyer_75 : decode cX8_buyer 75 = .ok (.lmul, 1) := by decide +kernel
theorem dX8_buyer_76 : decode cX8_buyer 76 = .ok (.lastore, 1) := by decide +kernel
theorem dX8_buyer_77 : decode cX8_buyer 77 = .ok (.iinc 3 (-1), 3) := by decide +kernel
theorem dX8_buyer_80 : decode cX8_buyer 80 = .ok (.goto (-77), 3) := by decide +kernel
theorem dX8_buyer_83 : decode cX8_buyer 83 = .ok (.aload_n 0, 1) := by decide +kernel
theorem dX8_buyer_84 : decode cX8_buyer 84 = .ok (.dup, 1) := by decide +kernel
theorem dX8_buyer_85 : decode cX8_buyer 85 = .ok (.getfield 120, 3) := by decide +kernel
theorem dX8_buyer_88 : decode cX8_buyer 88 = .ok (.ldc2_w 99, 3) := by decide +kernel
theorem dX8_buyer_91 : decode cX8_buyer 91 = .ok (.lmul, 1) := by decide +kernel
theorem dX8_buyer_92 : decode cX8_buyer 92 = .ok (.putfield 120, 3) := by decide +kernel
theorem dX8_buyer_95 : decode cX8_buyer 95 = .ok (.return_, 1) := by decide +kernel
theorem dX8_dayAt_0 : decode cX8_dayAt 0 = .ok (.aload_n 0, 1) := by decide +kernel
theorem dX8_dayAt_1 : decode cX8_dayAt 1 = .ok (.getfield 103, 3) := by decide +kernel
theorem dX8_dayAt_4 : decode cX8_dayAt 4 = .ok (.iconst 1, 1) := by decide +kernel
theorem dX8_dayAt_5 : decode cX8_dayAt 5 = .ok (.isub, 1) := by decide +kernel
theorem dX8_dayAt_6 : decode cX8_dayAt 6 = .ok (.istore_n 3, 1) := by decide +kernel
theorem dX8_dayAt_7 : decode cX8_dayAt 7 = .ok (.iload_n 3, 1) := by decide +kernel
theorem dX8_dayAt_8 : decode cX8_dayAt 8 = .ok (.ifCond .lt 34, 3) := by decide +kernel
theorem dX8_dayAt_11 : decode cX8_dayAt 11 = .ok (.aload_n 0, 1) := by decide +kernel
theorem dX8_dayAt_12 : decode cX8_dayAt 12 = .ok (.aload_n 0, 1) := by decide +kernel
theorem dX8_dayAt_13 : decode cX8_dayAt 13 = .ok (.iload_n 3, 1) := by decide +kernel
theorem dX8_dayAt_14 : decode cX8_dayAt 14 = .ok (.iload_n 1, 1) := by decide +kernel
theorem dX8_dayAt_15 : decode cX8_dayAt 15 = .ok (.invokevirtual 116, 3) := by decide +kernel
theorem dX8_dayAt_18 : decode cX8_dayAt 18 = .ok (.iload_n 2, 1) := by decide +kernel
theorem dX8_dayAt_19 : decode cX8_dayAt 19 = .ok (.if_icmp .lt 12, 3) := by decide +kernel
theorem dX8_dayAt_22 : decode cX8_dayAt 22 = .ok (.aload_n 0, 1) := by decide +kernel
theorem dX8_dayAt_23 : decode cX8_dayAt 23 = .ok (.getfield 13, 3) := by decide +kernel
theorem dX8_dayAt_26 : decode cX8_dayAt 26 = .ok (.iload_n 3, 1) := by decide +kernel
theorem dX8_dayAt_27 : decode cX8_dayAt 27 = .ok (.iaload, 1) := by decide +kernel
theorem dX8_dayAt_28 : decode cX8_dayAt 28 = .ok (.goto 4, 3) := by decide +kernel
theorem dX8_dayAt_31 : decode cX8_dayAt 31 = .ok (.iconst 0, 1) := by decide +kernel
theorem dX8_dayAt_32 : decode cX8_dayAt 32 = .ok (.iload_n 2, 1) := by decide +kernel
theorem dX8_dayAt_33 : decode cX8_dayAt 33 = .ok (.invokevirtual 124, 3) := by decide +kernel
theorem dX8_dayAt_36 : decode cX8_dayAt 36 = .ok (.iinc 3 (-1), 3) := by decide +kernel
theorem dX8_dayAt_39 : decode cX8_dayAt 39 = .ok (.goto (-32), 3) := by decide +kernel
theorem dX8_dayAt_42 : decode cX8_dayAt 42 = .ok (.return_, 1) := by decide +kernel
theorem dX8_findBest_0 : decode cX8_findBest 0 = .ok (.aload_n 0, 1) := by decide +kernel
theorem dX8_findBest_1 : decode cX8_findBest 1 = .ok (.invokevirtual 128, 3) := by decide +kernel
theorem dX8_findBest_4 : decode cX8_findBest 4 = .ok (.aload_n 0, 1) := by decide +kernel
theorem dX8_findBest_5 : decode cX8_findBest 5 = .ok (.getfield 120, 3) := by decide +kernel
theorem dX8_findBest_8 : decode cX8_findBest 8 = .ok (.lstore_n 1, 1) := by decide +kernel
theorem dX8_findBest_9 : decode cX8_findBest 9 = .ok (.aload_n 0, 1) := by decide +kernel
theorem dX8_findBest_10 : decode cX8_findBest 10 = .ok (.aload_n 0, 1) := by decide +kernel
theorem dX8_findBest_11 : decode cX8_findBest 11 = .ok (.getfield 78, 3) := by decide +kernel
theorem dX8_findBest_14 : decode cX8_findBest 14 = .ok (.invokevirtual 131, 3) := by decide +kernel
theorem dX8_findBest_17 : decode cX8_findBest 17 = .ok (.aload_n 0, 1) := by decide +kernel
theorem dX8_findBest_18 : decode cX8_findBest 18 = .ok (.getfield 78, 3) := by decide +kernel
theorem dX8_findBest_21 : decode cX8_findBest 21 = .ok (.iconst 1, 1) := by decide +kernel
theorem dX8_findBest_22 : decode cX8_findBest 22 = .ok (.isub, 1) := by decide +kernel
theorem dX8_findBest_23 : decode cX8_findBest 23 = .ok (.istore_n 3, 1) := by decide +kernel
theorem dX8_findBest_24 : decode cX8_findBest 24 = .ok (.iload_n 3, 1) := by decide +kernel
theorem dX8_findBest_25 : decode cX8_findBest 25 = .ok (.ifCond .lt 231, 3) := by decide +kernel
theorem dX8_findBest_28 : decode cX8_findBest 28 = .ok (.iconst 0, 1) := by decide +kernel
theorem dX8_findBest_29 : decode cX8_findBest 29 = .ok (.istore 4, 2) := by decide +kernel
theorem dX8_findBest_31 : decode cX8_findBest 31 = .ok (.iload 4, 2) := by decide +kernel
theorem dX8_findBest_33 : decode cX8_findBest 33 = .ok (.bipush 12, 2) := by decide +kernel
theorem dX8_findBest_35 : decode cX8_findBest 35 = .ok (.if_icmp .gt 38, 3) := by decide +kernel
theorem dX8_findBest_38 : decode cX8_findBest 38 = .ok (.aload_n 0, 1) := by decide +kernel
theorem dX8_findBest_39 : decode cX8_findBest 39 = .ok (.getfield 38, 3) := by decide +kernel
theorem dX8_findBest_42 : decode cX8_findBest 42 = .ok (.iload 4, 2) := by decide +kernel
theorem dX8_findBest_44 : decode cX8_findBest 44 = .ok (.aload_n 0, 1) := by decide +kernel
theorem dX8_findBest_45 : decode cX8_findBest 45 = .ok (.getfield 28, 3) := by decide +kernel
theorem dX8_findBest_48 : decode cX8_findBest 48 = .ok (.iload 4, 2) := by decide +kernel
theorem dX8_findBest_50 : decode cX8_findBest 50 = .ok (.laload, 1) := by decide +kernel
theorem dX8_findBest_51 : decode cX8_findBest 51 = .ok (.lastore, 1) := by decide +kernel
theorem dX8_findBest_52 : decode cX8_findBest 52 = .ok (.aload_n 0, 1) := by decide +kernel
theorem dX8_findBest_53 : decode cX8_findBest 53 = .ok (.getfield 32, 3) := by decide +kernel
theorem dX8_findBest_56 : decode cX8_findBest 56 = .ok (.bipush 13, 2) := by decide +kernel
theorem dX8_findBest_58 : decode cX8_findBest 58 = .ok (.iload_n 3, 1) := by decide +kernel
theorem dX8_findBest_59 : decode cX8_findBest 59 = .ok (.imul, 1) := by decide +kernel
theorem dX8_findBest_60 : decode cX8_findBest 60 = .ok (.iload 4, 2) := by decide +kernel
theorem dX8_findBest_62 : decode cX8_findBest 62 = .ok (.iadd, 1) := by decide +kernel
theorem dX8_findBest_63 : decode cX8_findBest 63 = .ok (.ldc2_w 112, 3) := by decide +kernel
theorem dX8_findBest_66 : decode cX8_findBest 66 = .ok (.lastore, 1) := by decide +kernel
theorem dX8_findBest_67 : decode cX8_findBest 67 = .ok (.iinc 4 1, 3) := by decide +kernel
theorem dX8_findBest_70 : decode cX8_findBest 70 = .ok (.goto (-39), 3) := by decide +kernel
theorem dX8_findBest_73 : decode cX8_findBest 73 = .ok (.iconst 0, 1) := by decide +kernel
theorem dX8_findBest_74 : decode cX8_findBest 74 = .ok (.istore 4, 2) := by decide +kernel
theorem dX8_findBest_76 : decode cX8_findBest 76 = .ok (.iload 4, 2) := by decide +kernel
theorem dX8_findBest_78 : decode cX8_findBest 78 = .ok (.aload_n 0, 1) := by decide +kernel
theorem dX8_findBest_79 : decode cX8_findBest 79 = .ok (.getfield 96, 3) := by decide +kernel
theorem dX8_findBest_82 : decode cX8_findBest 82 = .ok (.if_icmp .ge 128, 3) := by decide +kernel
theorem dX8_findBest_85 : decode cX8_findBest 85 = .ok (.aload_n 0, 1) := by decide +kernel
theorem dX8_findBest_86 : decode cX8_findBest 86 = .ok (.lload_n 1, 1) := by decide +kernel
theorem dX8_findBest_87 : decode cX8_findBest 87 = .ok (.putfield 120, 3) := by decide +kernel
theorem dX8_findBest_90 : decode cX8_findBest 90 = .ok (.iconst 0, 1) := by decide +kernel
theorem dX8_findBest_91 : decode cX8_findBest 91 = .ok (.istore 5, 2) := by decide +kernel
theorem dX8_findBest_93 : decode cX8_findBest 93 = .ok (.iload 5, 2) := by decide +kernel
theorem dX8_findBest_95 : decode cX8_findBest 95 = .ok (.bipush 12, 2) := by decide +kernel
theorem dX8_findBest_97 : decode cX8_findBest 97 = .ok (.if_icmp .gt 23, 3) := by decide +kernel
theorem dX8_findBest_100 : decode cX8_findBest 100 = .ok (.aload_n 0, 1) := by decide +kernel
theorem dX8_findBest_101 : decode cX8_findBest 101 = .ok (.getfield 28, 3) := by decide +kernel
theorem dX8_findBest_104 : decode cX8_findBest 104 = .ok (.iload 5, 2) := by decide +kernel
theorem dX8_findBest_106 : decode cX8_findBest 106 = .ok (.aload_n 0, 1) := by decide +kernel
theorem dX8_findBest_107 : decode cX8_findBest 107 = .ok (.getfield 38, 3) := by decide +kernel
theorem dX8_findBest_110 : decode cX8_findBest 110 = .ok (.iload 5, 2) := by decide +kernel
theorem dX8_findBest_112 : decode cX8_findBest 112 = .ok (.laload, 1) := by decide +kernel
theorem dX8_findBest_113 : decode cX8_findBest 113 = .ok (.lastore, 1) := by decide +kernel
theorem dX8_findBest_114 : decode cX8_findBest 114 = .ok (.iinc 5 1, 3) := by decide +kernel
theorem dX8_findBest_117 : decode cX8_findBest 117 = .ok (.goto (-24), 3) := by decide +kernel
theorem dX8_findBest_120 : decode cX8_findBest 120 = .ok (.aload_n 0, 1) := by decide +kernel
theorem dX8_findBest_121 : decode cX8_findBest 121 = .ok (.iload_n 3, 1) := by decide +kernel
theorem dX8_findBest_122 : decode cX8_findBest 122 = .ok (.aload_n 0, 1) := by decide +kernel
theorem dX8_findBest_123 : decode cX8_findBest 123 = .ok (.getfield 7, 3) := by decide +kernel
theorem dX8_findBest_126 : decode cX8_findBest 126 = .ok (.iload 4, 2) := by decide +kernel
theorem dX8_findBest_128 : decode cX8_findBest 128 = .ok (.iaload, 1) := by decide +kernel
theorem dX8_findBest_129 : decode cX8_findBest 129 = .ok (.invokevirtual 135, 3) := by decide +kernel
theorem dX8_findBest_132 : decode cX8_findBest 132 = .ok (.iconst 0, 1) := by decide +kernel
theorem dX8_findBest_133 : decode cX8_findBest 133 = .ok (.istore 5, 2) := by decide +kernel
theorem dX8_findBest_135 : decode cX8_findBest 135 = .ok (.iload 5, 2) := by decide +kernel
theorem dX8_findBest_137 : decode cX8_findBest 137 = .ok (.bipush 12, 2) := by decide +kernel
theorem dX8_findBest_139 : decode cX8_findBest 139 = .ok (.if_icmp .gt 65, 3) := by decide +kernel
theorem dX8_findBest_142 : decode cX8_findBest 142 = .ok (.aload_n 0, 1) := by decide +kernel
theorem dX8_findBest_143 : decode cX8_findBest 143 = .ok (.getfield 28, 3) := by decide +kernel
theorem dX8_findBest_146 : decode cX8_findBest 146 = .ok (.iload 5, 2) := by decide +kernel
theorem dX8_findBest_148 : decode cX8_findBest 148 = .ok (.laload, 1) := by decide +kernel
theorem dX8_findBest_149 : decode cX8_findBest 149 = .ok (.aload_n 0, 1) := by decide +kernel
theorem dX8_findBest_150 : decode cX8_findBest 150 = .ok (.getfield 32, 3) := by decide +kernel
theorem dX8_findBest_153 : decode cX8_findBest 153 = .ok (.bipush 13, 2) := by decide +kernel
theorem dX8_findBest_155 : decode cX8_findBest 155 = .ok (.iload_n 3, 1) := by decide +kernel
theorem dX8_findBest_156 : decode cX8_findBest 156 = .ok (.imul, 1) := by decide +kernel
theorem dX8_findBest_157 : decode cX8_findBest 157 = .ok (.iload 5, 2) := by decide +kernel
theorem dX8_findBest_159 : decode cX8_findBest 159 = .ok (.iadd, 1) := by decide +kernel
theorem dX8_findBest_160 : decode cX8_findBest 160 = .ok (.laload, 1) := by decide +kernel
theorem dX8_findBest_161 : decode cX8_findBest 161 = .ok (.lcmp, 1) := by decide +kernel
theorem dX8_findBest_162 : decode cX8_findBest 162 = .ok (.ifCond .le 36, 3) := by decide +kernel
theorem dX8_findBest_165 : decode cX8_findBest 165 = .ok (.aload_n 0, 1) := by decide +kernel
theorem dX8_findBest_166 : decode cX8_findBest 166 = .ok (.getfield 32, 3) := by decide +kernel
theorem dX8_findBest_169 : decode cX8_findBest 169 = .ok (.bipush 13, 2) := by decide +kernel
theorem dX8_findBest_171 : decode cX8_findBest 171 = .ok (.iload_n 3, 1) := by decide +kernel
theorem dX8_findBest_172 : decode cX8_findBest 172 = .ok (.imul, 1) := by decide +kernel
theorem dX8_findBest_173 : decode cX8_findBest 173 = .ok (.iload 5, 2) := by decide +kernel
theorem dX8_findBest_175 : decode cX8_findBest 175 = .ok (.iadd, 1) := by decide +kernel
theorem dX8_findBest_176 : decode cX8_findBest 176 = .ok (.aload_n 0, 1) := by decide +kernel
theorem dX8_findBest_177 : decode cX8_findBest 177 = .ok (.getfield 28, 3) := by decide +kernel
theorem dX8_findBest_180 : decode cX8_findBest 180 = .ok (.iload 5, 2) := by decide +kernel
theorem dX8_findBest_182 : decode cX8_findBest 182 = .ok (.laload, 1) := by decide +kernel
theorem dX8_findBest_183 : decode cX8_findBest 183 = .ok (.lastore, 1) := by decide +kernel
theorem dX8_findBest_184 : decode cX8_findBest 184 = .ok (.aload_n 0, 1) := by decide +kernel
theorem dX8_findBest_185 : decode cX8_findBest 185 = .ok (.getfield 35, 3) := by decide +kernel
theorem dX8_findBest_188 : decode cX8_findBest 188 = .ok (.bipush 13, 2) := by decide +kernel
theorem dX8_findBest_190 : decode cX8_findBest 190 = .ok (.iload_n 3, 1) := by decide +kernel
theorem dX8_findBest_191 : decode cX8_findBest 191 = .ok (.imul, 1) := by decide +kernel
theorem dX8_findBest_192 : decode cX8_findBest 192 = .ok (.iload 5, 2) := by decide +kernel
theorem dX8_findBest_194 : decode cX8_findBest 194 = .ok (.iadd, 1) := by decide +kernel
theorem dX8_findBest_195 : decode cX8_findBest 195 = .ok (.iload 4, 2) := by decide +kernel
theorem dX8_findBest_197 : decode cX8_findBest 197 = .ok (.iastore, 1) := by decide +kernel
theorem dX8_findBest_198 : decode cX8_findBest 198 = .ok (.iinc 5 1, 3) := by decide +kernel
theorem dX8_findBest_201 : decode cX8_findBest 201 = .ok (.goto (-66), 3) := by decide +kernel
theorem dX8_findBest_204 : decode cX8_findBest 204 = .ok (.iinc 4 1, 3) := by decide +kernel
theorem dX8_findBest_207 : decode cX8_findBest 207 = .ok (.goto (-131), 3) := by decide +kernel
theorem dX8_findBest_210 : decode cX8_findBest 210 = .ok (.iconst 0, 1) := by decide +kernel
theorem dX8_findBest_211 : decode cX8_findBest 211 = .ok (.istore 4, 2) := by decide +kernel
theorem dX8_findBest_213 : decode cX8_findBest 213 = .ok (.iload 4, 2) := by decide +kernel
theorem dX8_findBest_215 : decode cX8_findBest 215 = .ok (.bipush 12, 2) := by decide +kernel
theorem dX8_findBest_217 : decode cX8_findBest 217 = .ok (.if_icmp .gt 28, 3) := by decide +kernel
theorem dX8_findBest_220 : decode cX8_findBest 220 = .ok (.aload_n 0, 1) := by decide +kernel
theorem dX8_findBest_221 : decode cX8_findBest 221 = .ok (.getfield 28, 3) := by decide +kernel
theorem dX8_findBest_224 : decode cX8_findBest 224 = .ok (.iload 4, 2) := by decide +kernel
theorem dX8_findBest_226 : decode cX8_findBest 226 = .ok (.aload_n 0, 1) := by decide +kernel
theorem dX8_findBest_227 : decode cX8_findBest 227 = .ok (.getfield 32, 3) := by decide +kernel
theorem dX8_findBest_230 : decode cX8_findBest 230 = .ok (.bipush 13, 2) := by decide +kernel
theorem dX8_findBest_232 : decode cX8_findBest 232 = .ok (.iload_n 3, 1) := by decide +kernel
theorem dX8_findBest_233 : decode cX8_findBest 233 = .ok (.imul, 1) := by decide +kernel
theorem dX8_findBest_234 : decode cX8_findBest 234 = .ok (.iload 4, 2) := by decide +kernel
theorem dX8_findBest_236 : decode cX8_findBest 236 = .ok (.iadd, 1) := by decide +kernel
theorem dX8_findBest_237 : decode cX8_findBest 237 = .ok (.laload, 1) := by decide +kernel
theorem dX8_findBest_238 : decode cX8_findBest 238 = .ok (.lastore, 1) := by decide +kernel
theorem dX8_findBest_239 : decode cX8_findBest 239 = .ok (.iinc 4 1, 3) := by decide +kernel
theorem dX8_findBest_242 : decode cX8_findBest 242 = .ok (.goto (-29), 3) := by decide +kernel
theorem dX8_findBest_245 : decode cX8_findBest 245 = .ok (.aload_n 0, 1) := by decide +kernel
theorem dX8_findBest_246 : decode cX8_findBest 246 = .ok (.getfield 120, 3) := by decide +kernel
theorem dX8_findBest_249 : decode cX8_findBest 249 = .ok (.lstore_n 1, 1) := by decide +kernel
theorem dX8_findBest_250 : decode cX8_findBest 250 = .ok (.iinc 3 (-1), 3) := by decide +kernel
theorem dX8_findBest_253 : decode cX8_findBest 253 = .ok (.goto (-229), 3) := by decide +kernel
theorem dX8_findBest_256 : decode cX8_findBest 256 = .ok (.return_, 1) := by decide +kernel
theorem dX8_keepRow_0 : decode cX8_keepRow 0 = .ok (.iconst 0, 1) := by decide +kernel
theorem dX8_keepRow_1 : decode cX8_keepRow 1 = .ok (.istore_n 2, 1) := by decide +kernel
theorem dX8_keepRow_2 : decode cX8_keepRow 2 = .ok (.iload_n 2, 1) := by decide +kernel
theorem dX8_keepRow_3 : decode cX8_keepRow 3 = .ok (.bipush 12, 2) := by decide +kernel
theorem dX8_keepRow_5 : decode cX8_keepRow 5 = .ok (.if_icmp .gt 26, 3) := by decide +kernel
theorem dX8_keepRow_8 : decode cX8_keepRow 8 = .ok (.aload_n 0, 1) := by decide +kernel
theorem dX8_keepRow_9 : decode cX8_keepRow 9 = .ok (.getfield 32, 3) := by decide +kernel
theorem dX8_keepRow_12 : decode cX8_keepRow 12 = .ok (.bipush 13, 2) := by decide +kernel
theorem dX8_keepRow_14 : decode cX8_keepRow 14 = .ok (.iload_n 1, 1) := by decide +kernel
theorem dX8_keepRow_15 : decode cX8_keepRow 15 = .ok (.imul, 1) := by decide +kernel
theorem dX8_keepRow_16 : decode cX8_keepRow 16 = .ok (.iload_n 2, 1) := by decide +kernel
theorem dX8_keepRow_17 : decode cX8_keepRow 17 = .ok (.iadd, 1) := by decide +kernel
theorem dX8_keepRow_18 : decode cX8_keepRow 18 = .ok (.aload_n 0, 1) := by decide +kernel
theorem dX8_keepRow_19 : decode cX8_keepRow 19 = .ok (.getfield 28, 3) := by decide +kernel
theorem dX8_keepRow_22 : decode cX8_keepRow 22 = .ok (.iload_n 2, 1) := by decide +kernel
theorem dX8_keepRow_23 : decode cX8_keepRow 23 = .ok (.laload, 1) := by decide +kernel
theorem dX8_keepRow_24 : decode cX8_keepRow 24 = .ok (.lastore, 1) := by decide +kernel
theorem dX8_keepRow_25 : decode cX8_keepRow 25 = .ok (.iinc 2 1, 3) := by decide +kernel
theorem dX8_keepRow_28 : decode cX8_keepRow 28 = .ok (.goto (-26), 3) := by decide +kernel
theorem dX8_keepRow_31 : decode cX8_keepRow 31 = .ok (.return_, 1) := by decide +kernel
theorem dX8_layPlan_0 : decode cX8_layPlan 0 = .ok (.iconst 0, 1) := by decide +kernel
theorem dX8_layPlan_1 : decode cX8_layPlan 1 = .ok (.istore_n 1, 1) := by decide +kernel
theorem dX8_layPlan_2 : decode cX8_layPlan 2 = .ok (.iload_n 1, 1) := by decide +kernel
theorem dX8_layPlan_3 : decode cX8_layPlan 3 = .ok (.bipush 6, 2) := by decide +kernel
theorem dX8_layPlan_5 : decode cX8_layPlan 5 = .ok (.if_icmp .ge 21, 3) := by decide +kernel
theorem dX8_layPlan_8 : decode cX8_layPlan 8 = .ok (.aload_n 0, 1) := by decide +kernel
theorem dX8_layPlan_9 : decode cX8_layPlan 9 = .ok (.getfield 41, 3) := by decide +kernel
theorem dX8_layPlan_12 : decode cX8_layPlan 12 = .ok (.iload_n 1, 1) := by decide +kernel
theorem dX8_layPlan_13 : decode cX8_layPlan 13 = .ok (.aload_n 0, 1) := by decide +kernel
theorem dX8_layPlan_14 : decode cX8_layPlan 14 = .ok (.getfield 25, 3) := by decide +kernel
theorem dX8_layPlan_17 : decode cX8_layPlan 17 = .ok (.iload_n 1, 1) := by decide +kernel
theorem dX8_layPlan_18 : decode cX8_layPlan 18 = .ok (.iaload, 1) := by decide +kernel
theorem dX8_layPlan_19 : decode cX8_layPlan 19 = .ok (.iastore, 1) := by decide +kernel
theorem dX8_layPlan_20 : decode cX8_layPlan 20 = .ok (.iinc 1 1, 3) := by decide +kernel
theorem dX8_layPlan_23 : decode cX8_layPlan 23 = .ok (.goto (-21), 3) := by decide +kernel
theorem dX8_layPlan_26 : decode cX8_layPlan 26 = .ok (.return_, 1) := by decide +kernel
theorem dX8_bringFrom_0 : decode cX8_bringFrom 0 = .ok (.aload_n 0, 1) := by decide +kernel
theorem dX8_bringFrom_1 : decode cX8_bringFrom 1 = .ok (.invokevirtual 128, 3) := by decide +kernel
theorem dX8_bringFrom_4 : decode cX8_bringFrom 4 = .ok (.aload_n 0, 1) := by decide +kernel
theorem dX8_bringFrom_5 : decode cX8_bringFrom 5 = .ok (.getfield 78, 3) := by decide +kernel
theorem dX8_bringFrom_8 : decode cX8_bringFrom 8 = .ok (.iconst 1, 1) := by decide +kernel
theorem dX8_bringFrom_9 : decode cX8_bringFrom 9 = .ok (.isub, 1) := by decide +kernel
theorem dX8_bringFrom_10 : decode cX8_bringFrom 10 = .ok (.istore_n 2, 1) := by decide +kernel
theorem dX8_bringFrom_11 : decode cX8_bringFrom 11 = .ok (.iload_n 2, 1) := by decide +kernel
theorem dX8_bringFrom_12 : decode cX8_bringFrom 12 = .ok (.iload_n 1, 1) := by decide +kernel
theorem dX8_bringFrom_13 : decode cX8_bringFrom 13 = .ok (.if_icmp .lt 25, 3) := by decide +kernel
theorem dX8_bringFrom_16 : decode cX8_bringFrom 16 = .ok (.aload_n 0, 1) := by decide +kernel
theorem dX8_bringFrom_17 : decode cX8_bringFrom 17 = .ok (.iload_n 2, 1) := by decide +kernel
theorem dX8_bringFrom_18 : decode cX8_bringFrom 18 = .ok (.aload_n 0, 1) := by decide +kernel
theorem dX8_bringFrom_19 : decode cX8_bringFrom 19 = .ok (.getfield 7, 3) := by decide +kernel
theorem dX8_bringFrom_22 : decode cX8_bringFrom 22 = .ok (.aload_n 0, 1) := by decide +kernel
theorem dX8_bringFrom_23 : decode cX8_bringFrom 23 = .ok (.getfield 41, 3) := by decide +kernel
theorem dX8_bringFrom_26 : decode cX8_bringFrom 26 = .ok (.iload_n 2, 1) := by decide +kernel
theorem dX8_bringFrom_27 : decode cX8_bringFrom 27 = .ok (.iaload, 1) := by decide +kernel
theorem dX8_bringFrom_28 : decode cX8_bringFrom 28 = .ok (.iaload, 1) := by decide +kernel
theorem dX8_bringFrom_29 : decode cX8_bringFrom 29 = .ok (.invokevirtual 135, 3) := by decide +kernel
theorem dX8_bringFrom_32 : decode cX8_bringFrom 32 = .ok (.iinc 2 (-1), 3) := by decide +kernel
theorem dX8_bringFrom_35 : decode cX8_bringFrom 35 = .ok (.goto (-24), 3) := by decide +kernel
theorem dX8_bringFrom_38 : decode cX8_bringFrom 38 = .ok (.return_, 1) := by decide +kernel
theorem dX8_plan_0 : decode cX8_plan 0 = .ok (.iload_n 2, 1) := by decide +kernel
theorem dX8_plan_1 : decode cX8_plan 1 = .ok (.i2l, 1) := by decide +kernel
theorem dX8_plan_2 : decode cX8_plan 2 = .ok (.lconst 0, 1) := by decide +kernel
theorem dX8_plan_3 : decode cX8_plan 3 = .ok (.aload_n 0, 1) := by decide +kernel
theorem dX8_plan_4 : decode cX8_plan 4 = .ok (.getfield 96, 3) := by decide +kernel
theorem dX8_plan_7 : decode cX8_plan 7 = .ok (.iconst 1, 1) := by decide +kernel
theorem dX8_plan_8 : decode cX8_plan 8 = .ok (.isub, 1) := by decide +kernel
theorem dX8_plan_9 : decode cX8_plan 9 = .ok (.i2l, 1) := by decide +kernel
theorem dX8_plan_10 : decode cX8_plan 10 = .ok (.invokestatic 83, 3) := by decide +kernel
theorem dX8_plan_13 : decode cX8_plan 13 = .ok (.ifCond .ne 5, 3) := by decide +kernel
theorem dX8_plan_16 : decode cX8_plan 16 = .ok (.iconst (-1), 1) := by decide +kernel
theorem dX8_plan_17 : decode cX8_plan 17 = .ok (.ireturn, 1) := by decide +kernel
theorem dX8_plan_18 : decode cX8_plan 18 = .ok (.iload_n 1, 1) := by decide +kernel
theorem dX8_plan_19 : decode cX8_plan 19 = .ok (.i2l, 1) := by decide +kernel
theorem dX8_plan_20 : decode cX8_plan 20 = .ok (.lconst 0, 1) := by decide +kernel
theorem dX8_plan_21 : decode cX8_plan 21 = .ok (.ldc2_w 114, 3) := by decide +kernel
theorem dX8_plan_24 : decode cX8_plan 24 = .ok (.invokestatic 83, 3) := by decide +kernel
theorem dX8_plan_27 : decode cX8_plan 27 = .ok (.ifCond .ne 6, 3) := by decide +kernel
theorem dX8_plan_30 : decode cX8_plan 30 = .ok (.bipush (-2), 2) := by decide +kernel
theorem dX8_plan_32 : decode cX8_plan 32 = .ok (.ireturn, 1) := by decide +kernel
theorem dX8_plan_33 : decode cX8_plan 33 = .ok (.aload_n 0, 1) := by decide +kernel
theorem dX8_plan_34 : decode cX8_plan 34 = .ok (.getfield 25, 3) := by decide +kernel
theorem dX8_plan_37 : decode cX8_plan 37 = .ok (.iload_n 1, 1) := by decide +kernel
theorem dX8_plan_38 : decode cX8_plan 38 = .ok (.iaload, 1) := by decide +kernel
theorem dX8_plan_39 : decode cX8_plan 39 = .ok (.istore_n 3, 1) := by decide +kernel
theorem dX8_plan_40 : decode cX8_plan 40 = .ok (.aload_n 0, 1) := by decide +kernel
theorem dX8_plan_41 : decode cX8_plan 41 = .ok (.getfield 25, 3) := by decide +kernel
theorem dX8_plan_44 : decode cX8_plan 44 = .ok (.iload_n 1, 1) := by decide +kernel
theorem dX8_plan_45 : decode cX8_plan 45 = .ok (.iload_n 2, 1) := by decide +kernel
theorem dX8_plan_46 : decode cX8_plan 46 = .ok (.iastore, 1) := by decide +kernel
theorem dX8_plan_47 : decode cX8_plan 47 = .ok (.iload_n 3, 1) := by decide +kernel
theorem dX8_plan_48 : decode cX8_plan 48 = .ok (.ireturn, 1) := by decide +kernel
theorem dX8_brings_0 : decode cX8_brings 0 = .ok (.iload_n 1, 1) := by decide +kernel
theorem dX8_brings_1 : decode cX8_brings 1 = .ok (.invokestatic 138, 3) := by decide +kernel
theorem dX8_brings_4 : decode cX8_brings 4 = .ok (.ifCond .ne 7, 3) := by decide +kernel
theorem dX8_brings_7 : decode cX8_brings 7 = .ok (.ldc2_w 141, 3) := by decide +kernel
theorem dX8_brings_10 : decode cX8_brings 10 = .ok (.lreturn, 1) := by decide +kernel
theorem dX8_brings_11 : decode cX8_brings 11 = .ok (.aload_n 0, 1) := by decide +kernel
theorem dX8_brings_12 : decode cX8_brings 12 = .ok (.getfield 96, 3) := by decide +kernel
theorem dX8_brings_15 : decode cX8_brings 15 = .ok (.ifCond .ne 7, 3) := by decide +kernel
theorem dX8_brings_18 : decode cX8_brings 18 = .ok (.ldc2_w 143, 3) := by decide +kernel
theorem dX8_brings_21 : decode cX8_brings 21 = .ok (.lreturn, 1) := by decide +kernel
theorem dX8_brings_22 : decode cX8_brings 22 = .ok (.aload_n 0, 1) := by decide +kernel
theorem dX8_brings_23 : decode cX8_brings 23 = .ok (.invokevirtual 145, 3) := by decide +kernel
theorem dX8_brings_26 : decode cX8_brings 26 = .ok (.aload_n 0, 1) := by decide +kernel
theorem dX8_brings_27 : decode cX8_brings 27 = .ok (.iconst 0, 1) := by decide +kernel
theorem dX8_brings_28 : decode cX8_brings 28 = .ok (.invokevirtual 148, 3) := by decide +kernel
theorem dX8_brings_31 : decode cX8_brings 31 = .ok (.aload_n 0, 1) := by decide +kernel
theorem dX8_brings_32 : decode cX8_brings 32 = .ok (.getfield 28, 3) := by decide +kernel
theorem dX8_brings_35 : decode cX8_brings 35 = .ok (.aload_n 0, 1) := by decide +kernel
theorem dX8_brings_36 : decode cX8_brings 36 = .ok (.getfield 75, 3) := by decide +kernel
theorem dX8_brings_39 : decode cX8_brings 39 = .ok (.laload, 1) := by decide +kernel
theorem dX8_brings_40 : decode cX8_brings 40 = .ok (.aload_n 0, 1) := by decide +kernel
theorem dX8_brings_41 : decode cX8_brings 41 = .ok (.getfield 120, 3) := by decide +kernel
theorem dX8_brings_44 : decode cX8_brings 44 = .ok (.iload_n 1, 1) := by decide +kernel
theorem dX8_brings_45 : decode cX8_brings 45 = .ok (.invokestatic 151, 3) := by decide +kernel
theorem dX8_brings_48 : decode cX8_brings 48 = .ok (.lreturn, 1) := by decide +kernel
theorem dX8_findOdds_0 : decode cX8_findOdds 0 = .ok (.aload_n 0, 1) := by decide +kernel
theorem dX8_findOdds_1 : decode cX8_findOdds 1 = .ok (.lconst 1, 1) := by decide +kernel
theorem dX8_findOdds_2 : decode cX8_findOdds 2 = .ok (.putfield 120, 3) := by decide +kernel
theorem dX8_findOdds_5 : decode cX8_findOdds 5 = .ok (.iconst 0, 1) := by decide +kernel
theorem dX8_findOdds_6 : decode cX8_findOdds 6 = .ok (.istore_n 2, 1) := by decide +kernel
theorem dX8_findOdds_7 : decode cX8_findOdds 7 = .ok (.iload_n 2, 1) := by decide +kernel
theorem dX8_findOdds_8 : decode cX8_findOdds 8 = .ok (.bipush 12, 2) := by decide +kernel
theorem dX8_findOdds_10 : decode cX8_findOdds 10 = .ok (.if_icmp .gt 28, 3) := by decide +kernel
theorem dX8_findOdds_13 : decode cX8_findOdds 13 = .ok (.aload_n 0, 1) := by decide +kernel
theorem dX8_findOdds_14 : decode cX8_findOdds 14 = .ok (.getfield 44, 3) := by decide +kernel
theorem dX8_findOdds_17 : decode cX8_findOdds 17 = .ok (.iload_n 2, 1) := by decide +kernel
theorem dX8_findOdds_18 : decode cX8_findOdds 18 = .ok (.iload_n 2, 1) := by decide +kernel
theorem dX8_findOdds_19 : decode cX8_findOdds 19 = .ok (.aload_n 0, 1) := by decide +kernel
theorem dX8_findOdds_20 : decode cX8_findOdds 20 = .ok (.getfield 75, 3) := by decide +kernel
theorem dX8_findOdds_23 : decode cX8_findOdds 23 = .ok (.if_icmp .ne 7, 3) := by decide +kernel
theorem dX8_findOdds_26 : decode cX8_findOdds 26 = .ok (.lconst 1, 1) := by decide +kernel
theorem dX8_findOdds_27 : decode cX8_findOdds 27 = .ok (.goto 4, 3) := by decide +kernel
theorem dX8_findOdds_30 : decode cX8_findOdds 30 = .ok (.lconst 0, 1) := by decide +kernel
theorem dX8_findOdds_31 : decode cX8_findOdds 31 = .ok (.lastore, 1) := by decide +kernel
theorem dX8_findOdds_32 : decode cX8_findOdds 32 = .ok (.iinc 2 1, 3) := by decide +kernel
theorem dX8_findOdds_35 : decode cX8_findOdds 35 = .ok (.goto (-28), 3) := by decide +kernel
theorem dX8_findOdds_38 : decode cX8_findOdds 38 = .ok (.iconst 0, 1) := by decide +kernel
theorem dX8_findOdds_39 : decode cX8_findOdds 39 = .ok (.istore_n 2, 1) := by decide +kernel
theorem dX8_findOdds_40 : decode cX8_findOdds 40 = .ok (.iload_n 2, 1) := by decide +kernel
theorem dX8_findOdds_41 : decode cX8_findOdds 41 = .ok (.iload_n 1, 1) := by decide +kernel
theorem dX8_findOdds_42 : decode cX8_findOdds 42 = .ok (.if_icmp .ge 143, 3) := by decide +kernel
theorem dX8_findOdds_45 : decode cX8_findOdds 45 = .ok (.iconst 0, 1) := by decide +kernel
theorem dX8_findOdds_46 : decode cX8_findOdds 46 = .ok (.istore_n 3, 1) := by decide +kernel
theorem dX8_findOdds_47 : decode cX8_findOdds 47 = .ok (.iload_n 3, 1) := by decide +kernel
theorem dX8_findOdds_48 : decode cX8_findOdds 48 = .ok (.aload_n 0, 1) := by decide +kernel
theorem dX8_findOdds_49 : decode cX8_findOdds 49 = .ok (.getfield 103, 3) := by decide +kernel
theorem dX8_findOdds_52 : decode cX8_findOdds 52 = .ok (.if_icmp .ge 127, 3) := by decide +kernel
theorem dX8_findOdds_55 : decode cX8_findOdds 55 = .ok (.aload_n 0, 1) := by decide +kernel
theorem dX8_findOdds_56 : decode cX8_findOdds 56 = .ok (.iload_n 3, 1) := by decide +kernel
theorem dX8_findOdds_57 : decode cX8_findOdds 57 = .ok (.iload_n 2, 1) := by decide +kernel
theorem dX8_findOdds_58 : decode cX8_findOdds 58 = .ok (.invokevirtual 116, 3) := by decide +kernel
theorem dX8_findOdds_61 : decode cX8_findOdds 61 = .ok (.aload_n 0, 1) := by decide +kernel
theorem dX8_findOdds_62 : decode cX8_findOdds 62 = .ok (.getfield 7, 3) := by decide +kernel
theorem dX8_findOdds_65 : decode cX8_findOdds 65 = .ok (.aload_n 0, 1) := by decide +kernel
theorem dX8_findOdds_66 : decode cX8_findOdds 66 = .ok (.getfield 41, 3) := by decide +kernel
theorem dX8_findOdds_69 : decode cX8_findOdds 69 = .ok (.iload_n 2, 1) := by decide +kernel
theorem dX8_findOdds_70 : decode cX8_findOdds 70 = .ok (.iaload, 1) := by decide +kernel
theorem dX8_findOdds_71 : decode cX8_findOdds 71 = .ok (.iaload, 1) := by decide +kernel
theorem dX8_findOdds_72 : decode cX8_findOdds 72 = .ok (.if_icmp .lt 12, 3) := by decide +kernel
theorem dX8_findOdds_75 : decode cX8_findOdds 75 = .ok (.aload_n 0, 1) := by decide +kernel
theorem dX8_findOdds_76 : decode cX8_findOdds 76 = .ok (.getfield 13, 3) := by decide +kernel
theorem dX8_findOdds_79 : decode cX8_findOdds 79 = .ok (.iload_n 3, 1) := by decide +kernel
theorem dX8_findOdds_80 : decode cX8_findOdds 80 = .ok (.iaload, 1) := by decide +kernel
theorem dX8_findOdds_81 : decode cX8_findOdds 81 = .ok (.goto 4, 3) := by decide +kernel
theorem dX8_findOdds_84 : decode cX8_findOdds 84 = .ok (.iconst 0, 1) := by decide +kernel
theorem dX8_findOdds_85 : decode cX8_findOdds 85 = .ok (.istore 4, 2) := by decide +kernel
theorem dX8_findOdds_87 : decode cX8_findOdds 87 = .ok (.iconst 0, 1) := by decide +kernel
theorem dX8_findOdds_88 : decode cX8_findOdds 88 = .ok (.istore 5, 2) := by decide +kernel
theorem dX8_findOdds_90 : decode cX8_findOdds 90 = .ok (.iload 5, 2) := by decide +kernel
theorem dX8_findOdds_92 : decode cX8_findOdds 92 = .ok (.bipush 12, 2) := by decide +kernel
theorem dX8_findOdds_94 : decode cX8_findOdds 94 = .ok (.if_icmp .gt 67, 3) := by decide +kernel
theorem dX8_findOdds_97 : decode cX8_findOdds 97 = .ok (.iload 5, 2) := by decide +kernel
theorem dX8_findOdds_99 : decode cX8_findOdds 99 = .ok (.bipush 12, 2) := by decide +kernel
theorem dX8_findOdds_101 : decode cX8_findOdds 101 = .ok (.if_icmp .ge 19, 3) := by decide +kernel
theorem dX8_findOdds_104 : decode cX8_findOdds 104 = .ok (.iload 4, 2) := by decide +kernel
theorem dX8_findOdds_106 : decode cX8_findOdds 106 = .ok (.i2l, 1) := by decide +kernel
theorem dX8_findOdds_107 : decode cX8_findOdds 107 = .ok (.aload_n 0, 1) := by decide +kernel
theorem dX8_findOdds_108 : decode cX8_findOdds 108 = .ok (.getfield 44, 3) := by decide +kernel
theorem dX8_findOdds_111 : decode cX8_findOdds 111 = .ok (.iload 5, 2) := by decide +kernel
theorem dX8_findOdds_113 : decode cX8_findOdds 113 = .ok (.iconst 1, 1) := by decide +kernel
theorem dX8_findOdds_114 : decode cX8_findOdds 114 = .ok (.iadd, 1) := by decide +kernel
theorem dX8_findOdds_115 : decode cX8_findOdds 115 = .ok (.laload, 1) := by decide +kernel
theorem dX8_findOdds_116 : decode cX8_findOdds 116 = .ok (.lmul, 1) := by decide +kernel
theorem dX8_findOdds_117 : decode cX8_findOdds 117 = .ok (.goto 4, 3) := by decide +kernel
theorem dX8_findOdds_120 : decode cX8_findOdds 120 = .ok (.lconst 0, 1) := by decide +kernel
theorem dX8_findOdds_121 : decode cX8_findOdds 121 = .ok (.lstore 6, 2) := by decide +kernel
theorem dX8_findOdds_123 : decode cX8_findOdds 123 = .ok (.aload_n 0, 1) := by decide +kernel
theorem dX8_findOdds_124 : decode cX8_findOdds 124 = .ok (.getfield 44, 3) := by decide +kernel
theorem dX8_findOdds_127 : decode cX8_findOdds 127 = .ok (.iload 5, 2) := by decide +kernel
theorem dX8_findOdds_129 : decode cX8_findOdds 129 = .ok (.iload 5, 2) := by decide +kernel
theorem dX8_findOdds_131 : decode cX8_findOdds 131 = .ok (.ifCond .ne 7, 3) := by decide +kernel
theorem dX8_findOdds_134 : decode cX8_findOdds 134 = .ok (.iconst 4, 1) := by decide +kernel
theorem dX8_findOdds_135 : decode cX8_findOdds 135 = .ok (.goto 7, 3) := by decide +kernel
theorem dX8_findOdds_138 : decode cX8_findOdds 138 = .ok (.iconst 4, 1) := by decide +kernel
theorem dX8_findOdds_139 : decode cX8_findOdds 139 = .ok (.iload 4, 2) := by decide +kernel
theorem dX8_findOdds_141 : decode cX8_findOdds 141 = .ok (.isub, 1) := by decide +kernel
theorem dX8_findOdds_142 : decode cX8_findOdds 142 = .ok (.i2l, 1) := by decide +kernel
theorem dX8_findOdds_143 : decode cX8_findOdds 143 = .ok (.aload_n 0, 1) := by decide +kernel
theorem dX8_findOdds_144 : decode cX8_findOdds 144 = .ok (.getfield 44, 3) := by decide +kernel
theorem dX8_findOdds_147 : decode cX8_findOdds 147 = .ok (.iload 5, 2) := by decide +kernel
theorem dX8_findOdds_149 : decode cX8_findOdds 149 = .ok (.laload, 1) := by decide +kernel
theorem dX8_findOdds_150 : decode cX8_findOdds 150 = .ok (.lmul, 1) := by decide +kernel
theorem dX8_findOdds_151 : decode cX8_findOdds 151 = .ok (.lload 6, 2) := by decide +kernel
theorem dX8_findOdds_153 : decode cX8_findOdds 153 = .ok (.ladd, 1) := by decide +kernel
theorem dX8_findOdds_154 : decode cX8_findOdds 154 = .ok (.lastore, 1) := by decide +kernel
theorem dX8_findOdds_155 : decode cX8_findOdds 155 = .ok (.iinc 5 1, 3) := by decide +kernel
theorem dX8_findOdds_158 : decode cX8_findOdds 158 = .ok (.goto (-68), 3) := by decide +kernel
theorem dX8_findOdds_161 : decode cX8_findOdds 161 = .ok (.aload_n 0, 1) := by decide +kernel
theorem dX8_findOdds_162 : decode cX8_findOdds 162 = .ok (.dup, 1) := by decide +kernel
theorem dX8_findOdds_163 : decode cX8_findOdds 163 = .ok (.getfield 120, 3) := by decide +kernel
theorem dX8_findOdds_166 : decode cX8_findOdds 166 = .ok (.ldc2_w 99, 3) := by decide +kernel
theorem dX8_findOdds_169 : decode cX8_findOdds 169 = .ok (.lmul, 1) := by decide +kernel
theorem dX8_findOdds_170 : decode cX8_findOdds 170 = .ok (.putfield 120, 3) := by decide +kernel
theorem dX8_findOdds_173 : decode cX8_findOdds 173 = .ok (.iinc 3 1, 3) := by decide +kernel
theorem dX8_findOdds_176 : decode cX8_findOdds 176 = .ok (.goto (-129), 3) := by decide +kernel
theorem dX8_findOdds_179 : decode cX8_findOdds 179 = .ok (.iinc 2 1, 3) := by decide +kernel
theorem dX8_findOdds_182 : decode cX8_findOdds 182 = .ok (.goto (-142), 3) := by decide +kernel
theorem dX8_findOdds_185 : decode cX8_findOdds 185 = .ok (.return_, 1) := by decide +kernel
theorem dX8_left_0 : decode cX8_left 0 = .ok (.iload_n 1, 1) := by decide +kernel
theorem dX8_left_1 : decode cX8_left 1 = .ok (.i2l, 1) := by decide +kernel
theorem dX8_left_2 : decode cX8_left 2 = .ok (.lconst 0, 1) := by decide +kernel
theorem dX8_left_3 : decode cX8_left 3 = .ok (.aload_n 0, 1) := by decide +kernel
theorem dX8_left_4 : decode cX8_left 4 = .ok (.getfield 75, 3) := by decide +kernel
theorem dX8_left_7 : decode cX8_left 7 = .ok (.i2l, 1) := by decide +kernel
theorem dX8_left_8 : decode cX8_left 8 = .ok (.invokestatic 83, 3) := by decide +kernel
theorem dX8_left_11 : decode cX8_left 11 = .ok (.ifCond .eq 10, 3) := by decide +kernel
theorem dX8_left_14 : decode cX8_left 14 = .ok (.iload_n 2, 1) := by decide +kernel
theorem dX8_left_15 : decode cX8_left 15 = .ok (.invokestatic 138, 3) := by decide +kernel
theorem dX8_left_18 : decode cX8_left 18 = .ok (.ifCond .ne 7, 3) := by decide +kernel
theorem dX8_left_21 : decode cX8_left 21 = .ok (.ldc2_w 141, 3) := by decide +kernel
theorem dX8_left_24 : decode cX8_left 24 = .ok (.lreturn, 1) := by decide +kernel
theorem dX8_left_25 : decode cX8_left 25 = .ok (.aload_n 0, 1) := by decide +kernel
theorem dX8_left_26 : decode cX8_left 26 = .ok (.getfield 96, 3) := by decide +kernel
theorem dX8_left_29 : decode cX8_left 29 = .ok (.ifCond .ne 7, 3) := by decide +kernel
theorem dX8_left_32 : decode cX8_left 32 = .ok (.ldc2_w 143, 3) := by decide +kernel
theorem dX8_left_35 : decode cX8_left 35 = .ok (.lreturn, 1) := by decide +kernel
theorem dX8_left_36 : decode cX8_left 36 = .ok (.aload_n 0, 1) := by decide +kernel
theorem dX8_left_37 : decode cX8_left 37 = .ok (.invokevirtual 145, 3) := by decide +kernel
theorem dX8_left_40 : decode cX8_left 40 = .ok (.aload_n 0, 1) := by decide +kernel
theorem dX8_left_41 : decode cX8_left 41 = .ok (.aload_n 0, 1) := by decide +kernel
theorem dX8_left_42 : decode cX8_left 42 = .ok (.getfield 78, 3) := by decide +kernel
theorem dX8_left_45 : decode cX8_left 45 = .ok (.invokevirtual 155, 3) := by decide +kernel
theorem dX8_left_48 : decode cX8_left 48 = .ok (.aload_n 0, 1) := by decide +kernel
theorem dX8_left_49 : decode cX8_left 49 = .ok (.getfield 44, 3) := by decide +kernel
theorem dX8_left_52 : decode cX8_left 52 = .ok (.iload_n 1, 1) := by decide +kernel
theorem dX8_left_53 : decode cX8_left 53 = .ok (.laload, 1) := by decide +kernel
theorem dX8_left_54 : decode cX8_left 54 = .ok (.aload_n 0, 1) := by decide +kernel
theorem dX8_left_55 : decode cX8_left 55 = .ok (.getfield 120, 3) := by decide +kernel
theorem dX8_left_58 : decode cX8_left 58 = .ok (.iload_n 2, 1) := by decide +kernel
theorem dX8_left_59 : decode cX8_left 59 = .ok (.invokestatic 151, 3) := by decide +kernel
theorem dX8_left_62 : decode cX8_left 62 = .ok (.lreturn, 1) := by decide +kernel
theorem dX8_best_0 : decode cX8_best 0 = .ok (.iload_n 1, 1) := by decide +kernel
theorem dX8_best_1 : decode cX8_best 1 = .ok (.i2l, 1) := by decide +kernel
theorem dX8_best_2 : decode cX8_best 2 = .ok (.lconst 0, 1) := by decide +kernel
theorem dX8_best_3 : decode cX8_best 3 = .ok (.aload_n 0, 1) := by decide +kernel
theorem dX8_best_4 : decode cX8_best 4 = .ok (.getfield 78, 3) := by decide +kernel
theorem dX8_best_7 : decode cX8_best 7 = .ok (.iconst 1, 1) := by decide +kernel
theorem dX8_best_8 : decode cX8_best 8 = .ok (.isub, 1) := by decide +kernel
theorem dX8_best_9 : decode cX8_best 9 = .ok (.i2l, 1) := by decide +kernel
theorem dX8_best_10 : decode cX8_best 10 = .ok (.invokestatic 83, 3) := by decide +kernel
theorem dX8_best_13 : decode cX8_best 13 = .ok (.ifCond .eq 17, 3) := by decide +kernel
theorem dX8_best_16 : decode cX8_best 16 = .ok (.iload_n 2, 1) := by decide +kernel
theorem dX8_best_17 : decode cX8_best 17 = .ok (.i2l, 1) := by decide +kernel
theorem dX8_best_18 : decode cX8_best 18 = .ok (.lconst 1, 1) := by decide +kernel
theorem dX8_best_19 : decode cX8_best 19 = .ok (.aload_n 0, 1) := by decide +kernel
theorem dX8_best_20 : decode cX8_best 20 = .ok (.getfield 75, 3) := by decide +kernel
theorem dX8_best_23 : decode cX8_best 23 = .ok (.i2l, 1) := by decide +kernel
theorem dX8_best_24 : decode cX8_best 24 = .ok (.invokestatic 83, 3) := by decide +kernel
theorem dX8_best_27 : decode cX8_best 27 = .ok (.ifCond .ne 6, 3) := by decide +kernel
theorem dX8_best_30 : decode cX8_best 30 = .ok (.bipush (-2), 2) := by decide +kernel
theorem dX8_best_32 : decode cX8_best 32 = .ok (.ireturn, 1) := by decide +kernel
theorem dX8_best_33 : decode cX8_best 33 = .ok (.aload_n 0, 1) := by decide +kernel
theorem dX8_best_34 : decode cX8_best 34 = .ok (.getfield 96, 3) := by decide +kernel
theorem dX8_best_37 : decode cX8_best 37 = .ok (.ifCond .ne 6, 3) := by decide +kernel
theorem dX8_best_40 : decode cX8_best 40 = .ok (.bipush (-3), 2) := by decide +kernel
theorem dX8_best_42 : decode cX8_best 42 = .ok (.ireturn, 1) := by decide +kernel
theorem dX8_best_43 : decode cX8_best 43 = .ok (.aload_n 0, 1) := by decide +kernel
theorem dX8_best_44 : decode cX8_best 44 = .ok (.invokevirtual 158, 3) := by decide +kernel
theorem dX8_best_47 : decode cX8_best 47 = .ok (.aload_n 0, 1) := by decide +kernel
theorem dX8_best_48 : decode cX8_best 48 = .ok (.getfield 35, 3) := by decide +kernel
theorem dX8_best_51 : decode cX8_best 51 = .ok (.bipush 13, 2) := by decide +kernel
theorem dX8_best_53 : decode cX8_best 53 = .ok (.iload_n 1, 1) := by decide +kernel
theorem dX8_best_54 : decode cX8_best 54 = .ok (.imul, 1) := by decide +kernel
theorem dX8_best_55 : decode cX8_best 55 = .ok (.iload_n 2, 1) := by decide +kernel
theorem dX8_best_56 : decode cX8_best 56 = .ok (.iadd, 1) := by decide +kernel
theorem dX8_best_57 : decode cX8_best 57 = .ok (.iaload, 1) := by decide +kernel
theorem dX8_best_58 : decode cX8_best 58 = .ok (.ireturn, 1) := by decide +kernel
theorem dX8_state_0 : decode cX8_state 0 = .ok (.iload_n 1, 1) := by decide +kernel
theorem dX8_state_1 : decode cX8_state 1 = .ok (.i2l, 1) := by decide +kernel
theorem dX8_state_2 : decode cX8_state 2 = .ok (.lconst 0, 1) := by decide +kernel
theorem dX8_state_3 : decode cX8_state 3 = .ok (.aload_n 0, 1) := by decide +kernel
theorem dX8_state_4 : decode cX8_state 4 = .ok (.getfield 78, 3) := by decide +kernel
theorem dX8_state_7 : decode cX8_state 7 = .ok (.i2l, 1) := by decide +kernel
theorem dX8_state_8 : decode cX8_state 8 = .ok (.invokestatic 83, 3) := by decide +kernel
theorem dX8_state_11 : decode cX8_state 11 = .ok (.ifCond .eq 24, 3) := by decide +kernel
theorem dX8_state_14 : decode cX8_state 14 = .ok (.iload_n 2, 1) := by decide +kernel
theorem dX8_state_15 : decode cX8_state 15 = .ok (.i2l, 1) := by decide +kernel
theorem dX8_state_16 : decode cX8_state 16 = .ok (.lconst 0, 1) := by decide +kernel
theorem dX8_state_17 : decode cX8_state 17 = .ok (.aload_n 0, 1) := by decide +kernel
theorem dX8_state_18 : decode cX8_state 18 = .ok (.getfield 75, 3) := by decide +kernel
theorem dX8_state_21 : decode cX8_state 21 = .ok (.i2l, 1) := by decide +kernel
theorem dX8_state_22 : decode cX8_state 22 = .ok (.invokestatic 83, 3) := by decide +kernel
theorem dX8_state_25 : decode cX8_state 25 = .ok (.ifCond .eq 10, 3) := by decide +kernel
theorem dX8_state_28 : decode cX8_state 28 = .ok (.iload_n 3, 1) := by decide +kernel
theorem dX8_state_29 : decode cX8_state 29 = .ok (.invokestatic 138, 3) := by decide +kernel
theorem dX8_state_32 : decode cX8_state 32 = .ok (.ifCond .ne 7, 3) := by decide +kernel
theorem dX8_state_35 : decode cX8_state 35 = .ok (.ldc2_w 141, 3) := by decide +kernel
theorem dX8_state_38 : decode cX8_state 38 = .ok (.lreturn, 1) := by decide +kernel
theorem dX8_state_39 : decode cX8_state 39 = .ok (.aload_n 0, 1) := by decide +kernel
theorem dX8_state_40 : decode cX8_state 40 = .ok (.getfield 96, 3) := by decide +kernel
theorem dX8_state_43 : decode cX8_state 43 = .ok (.ifCond .ne 7, 3) := by decide +kernel
theorem dX8_state_46 : decode cX8_state 46 = .ok (.ldc2_w 143, 3) := by decide +kernel
theorem dX8_state_49 : decode cX8_state 49 = .ok (.lreturn, 1) := by decide +kernel
theorem dX8_state_50 : decode cX8_state 50 = .ok (.aload_n 0, 1) := by decide +kernel
theorem dX8_state_51 : decode cX8_state 51 = .ok (.invokevirtual 158, 3) := by decide +kernel
theorem dX8_state_54 : decode cX8_state 54 = .ok (.aload_n 0, 1) := by decide +kernel
theorem dX8_state_55 : decode cX8_state 55 = .ok (.getfield 32, 3) := by decide +kernel
theorem dX8_state_58 : decode cX8_state 58 = .ok (.bipush 13, 2) := by decide +kernel
theorem dX8_state_60 : decode cX8_state 60 = .ok (.iload_n 1, 1) := by decide +kernel
theorem dX8_state_61 : decode cX8_state 61 = .ok (.imul, 1) := by decide +kernel
theorem dX8_state_62 : decode cX8_state 62 = .ok (.iload_n 2, 1) := by decide +kernel
theorem dX8_state_63 : decode cX8_state 63 = .ok (.iadd, 1) := by decide +kernel
theorem dX8_state_64 : decode cX8_state 64 = .ok (.laload, 1) := by decide +kernel
theorem dX8_state_65 : decode cX8_state 65 = .ok (.aload_n 0, 1) := by decide +kernel
theorem dX8_state_66 : decode cX8_state 66 = .ok (.getfield 103, 3) := by decide +kernel
theorem dX8_state_69 : decode cX8_state 69 = .ok (.aload_n 0, 1) := by decide +kernel
theorem dX8_state_70 : decode cX8_state 70 = .ok (.getfield 78, 3) := by decide +kernel
theorem dX8_state_73 : decode cX8_state 73 = .ok (.iload_n 1, 1) := by decide +kernel
theorem dX8_state_74 : decode cX8_state 74 = .ok (.isub, 1) := by decide +kernel
theorem dX8_state_75 : decode cX8_state 75 = .ok (.imul, 1) := by decide +kernel
theorem dX8_state_76 : decode cX8_state 76 = .ok (.invokestatic 161, 3) := by decide +kernel
theorem dX8_state_79 : decode cX8_state 79 = .ok (.iload_n 3, 1) := by decide +kernel
theorem dX8_state_80 : decode cX8_state 80 = .ok (.invokestatic 151, 3) := by decide +kernel
theorem dX8_state_83 : decode cX8_state 83 = .ok (.lreturn, 1) := by decide +kernel
theorem dX8_dip_0 : decode cX8_dip 0 = .ok (.aload_n 0, 1) := by decide +kernel
theorem dX8_dip_1 : decode cX8_dip 1 = .ok (.getfield 96, 3) := by decide +kernel
theorem dX8_dip_4 : decode cX8_dip 4 = .ok (.ifCond .ne 6, 3) := by decide +kernel
theorem dX8_dip_7 : decode cX8_dip 7 = .ok (.bipush (-3), 2) := by decide +kernel
theorem dX8_dip_9 : decode cX8_dip 9 = .ok (.ireturn, 1) := by decide +kernel
theorem dX8_dip_10 : decode cX8_dip 10 = .ok (.aload_n 0, 1) := by decide +kernel
theorem dX8_dip_11 : decode cX8_dip 11 = .ok (.invokevirtual 158, 3) := by decide +kernel
theorem dX8_dip_14 : decode cX8_dip 14 = .ok (.iconst 0, 1) := by decide +kernel
theorem dX8_dip_15 : decode cX8_dip 15 = .ok (.istore_n 2, 1) := by decide +kernel
theorem dX8_dip_16 : decode cX8_dip 16 = .ok (.iconst 0, 1) := by decide +kernel
theorem dX8_dip_17 : decode cX8_dip 17 = .ok (.istore_n 3, 1) := by decide +kernel
theorem dX8_dip_18 : decode cX8_dip 18 = .ok (.iload_n 3, 1) := by decide +kernel
theorem dX8_dip_19 : decode cX8_dip 19 = .ok (.aload_n 0, 1) := by decide +kernel
theorem dX8_dip_20 : decode cX8_dip 20 = .ok (.getfield 78, 3) := by decide +kernel
theorem dX8_dip_23 : decode cX8_dip 23 = .ok (.if_icmp .ge 72, 3) := by decide +kernel
theorem dX8_dip_26 : decode cX8_dip 26 = .ok (.iconst 1, 1) := by decide +kernel
theorem dX8_dip_27 : decode cX8_dip 27 = .ok (.istore 4, 2) := by decide +kernel
theorem dX8_dip_29 : decode cX8_dip 29 = .ok (.iload 4, 2) := by decide +kernel
theorem dX8_dip_31 : decode cX8_dip 31 = .ok (.aload_n 0, 1) := by decide +kernel
theorem dX8_dip_32 : decode cX8_dip 32 = .ok (.getfield 75, 3) := by decide +kernel
theorem dX8_dip_35 : decode cX8_dip 35 = .ok (.if_icmp .ge 54, 3) := by decide +kernel
theorem dX8_dip_38 : decode cX8_dip 38 = .ok (.aload_n 0, 1) := by decide +kernel
theorem dX8_dip_39 : decode cX8_dip 39 = .ok (.getfield 35, 3) := by decide +kernel
theorem dX8_dip_42 : decode cX8_dip 42 = .ok (.bipush 13, 2) := by decide +kernel
theorem dX8_dip_44 : decode cX8_dip 44 = .ok (.iload_n 3, 1) := by decide +kernel
theorem dX8_dip_45 : decode cX8_dip 45 = .ok (.imul, 1) := by decide +kernel
theorem dX8_dip_46 : decode cX8_dip 46 = .ok (.iload 4, 2) := by decide +kernel
theorem dX8_dip_48 : decode cX8_dip 48 = .ok (.iadd, 1) := by decide +kernel
theorem dX8_dip_49 : decode cX8_dip 49 = .ok (.iaload, 1) := by decide +kernel
theorem dX8_dip_50 : decode cX8_dip 50 = .ok (.aload_n 0, 1) := by decide +kernel
theorem dX8_dip_51 : decode cX8_dip 51 = .ok (.getfield 35, 3) := by decide +kernel
theorem dX8_dip_54 : decode cX8_dip 54 = .ok (.bipush 13, 2) := by decide +kernel
theorem dX8_dip_56 : decode cX8_dip 56 = .ok (.iload_n 3, 1) := by decide +kernel
theorem dX8_dip_57 : decode cX8_dip 57 = .ok (.imul, 1) := by decide +kernel
theorem dX8_dip_58 : decode cX8_dip 58 = .ok (.iload 4, 2) := by decide +kernel
theorem dX8_dip_60 : decode cX8_dip 60 = .ok (.iadd, 1) := by decide +kernel
theorem dX8_dip_61 : decode cX8_dip 61 = .ok (.iconst 1, 1) := by decide +kernel
theorem dX8_dip_62 : decode cX8_dip 62 = .ok (.iadd, 1) := by decide +kernel
theorem dX8_dip_63 : decode cX8_dip 63 = .ok (.iaload, 1) := by decide +kernel
theorem dX8_dip_64 : decode cX8_dip 64 = .ok (.if_icmp .le 19, 3) := by decide +kernel
theorem dX8_dip_67 : decode cX8_dip 67 = .ok (.iload_n 2, 1) := by decide +kernel
theorem dX8_dip_68 : decode cX8_dip 68 = .ok (.iload_n 1, 1) := by decide +kernel
theorem dX8_dip_69 : decode cX8_dip 69 = .ok (.if_icmp .ne 11, 3) := by decide +kernel
theorem dX8_dip_72 : decode cX8_dip 72 = .ok (.bipush 100, 2) := by decide +kernel
theorem dX8_dip_74 : decode cX8_dip 74 = .ok (.iload_n 3, 1) := by decide +kernel
theorem dX8_dip_75 : decode cX8_dip 75 = .ok (.imul, 1) := by decide +kernel
theorem dX8_dip_76 : decode cX8_dip 76 = .ok (.iload 4, 2) := by decide +kernel
theorem dX8_dip_78 : decode cX8_dip 78 = .ok (.iadd, 1) := by decide +kernel
theorem dX8_dip_79 : decode cX8_dip 79 = .ok (.ireturn, 1) := by decide +kernel
theorem dX8_dip_80 : decode cX8_dip 80 = .ok (.iinc 2 1, 3) := by decide +kernel
theorem dX8_dip_83 : decode cX8_dip 83 = .ok (.iinc 4 1, 3) := by decide +kernel
theorem dX8_dip_86 : decode cX8_dip 86 = .ok (.goto (-57), 3) := by decide +kernel
theorem dX8_dip_89 : decode cX8_dip 89 = .ok (.iinc 3 1, 3) := by decide +kernel
theorem dX8_dip_92 : decode cX8_dip 92 = .ok (.goto (-74), 3) := by decide +kernel
theorem dX8_dip_95 : decode cX8_dip 95 = .ok (.iload_n 1, 1) := by decide +kernel
theorem dX8_dip_96 : decode cX8_dip 96 = .ok (.iconst (-1), 1) := by decide +kernel
theorem dX8_dip_97 : decode cX8_dip 97 = .ok (.if_icmp .ne 7, 3) := by decide +kernel
theorem dX8_dip_100 : decode cX8_dip 100 = .ok (.iload_n 2, 1) := by decide +kernel
theorem dX8_dip_101 : decode cX8_dip 101 = .ok (.goto 5, 3) := by decide +kernel
theorem dX8_dip_104 : decode cX8_dip 104 = .ok (.bipush (-6), 2) := by decide +kernel
theorem dX8_dip_106 : decode cX8_dip 106 = .ok (.ireturn, 1) := by decide +kernel
theorem dX8_nextPlan_0 : decode cX8_nextPlan 0 = .ok (.aload_n 0, 1) := by decide +kernel
theorem dX8_nextPlan_1 : decode cX8_nextPlan 1 = .ok (.getfield 78, 3) := by decide +kernel
theorem dX8_nextPlan_4 : decode cX8_nextPlan 4 = .ok (.iconst 1, 1) := by decide +kernel
theorem dX8_nextPlan_5 : decode cX8_nextPlan 5 = .ok (.isub, 1) := by decide +kernel
theorem dX8_nextPlan_6 : decode cX8_nextPlan 6 = .ok (.istore_n 1, 1) := by decide +kernel
theorem dX8_nextPlan_7 : decode cX8_nextPlan 7 = .ok (.iload_n 1, 1) := by decide +kernel
theorem dX8_nextPlan_8 : decode cX8_nextPlan 8 = .ok (.ifCond .lt 24, 3) := by decide +kernel
theorem dX8_nextPlan_11 : decode cX8_nextPlan 11 = .ok (.aload_n 0, 1) := by decide +kernel
theorem dX8_nextPlan_12 : decode cX8_nextPlan 12 = .ok (.getfield 41, 3) := by decide +kernel
theorem dX8_nextPlan_15 : decode cX8_nextPlan 15 = .ok (.iload_n 1, 1) := by decide +kernel
theorem dX8_nextPlan_16 : decode cX8_nextPlan 16 = .ok (.iaload, 1) := by decide +kernel
theorem dX8_nextPlan_17 : decode cX8_nextPlan 17 = .ok (.aload_n 0, 1) := by decide +kernel
theorem dX8_nextPlan_18 : decode cX8_nextPlan 18 = .ok (.getfield 96, 3) := by decide +kernel
theorem dX8_nextPlan_21 : decode cX8_nextPlan 21 = .ok (.iconst 1, 1) := by decide +kernel
theorem dX8_nextPlan_22 : decode cX8_nextPlan 22 = .ok (.isub, 1) := by decide +kernel
theorem dX8_nextPlan_23 : decode cX8_nextPlan 23 = .ok (.if_icmp .ne 9, 3) := by decide +kernel
theorem dX8_nextPlan_26 : decode cX8_nextPlan 26 = .ok (.iinc 1 (-1), 3) := by decide +kernel
theorem dX8_nextPlan_29 : decode cX8_nextPlan 29 = .ok (.goto (-22), 3) := by decide +kernel
theorem dX8_nextPlan_32 : decode cX8_nextPlan 32 = .ok (.iload_n 1, 1) := by decide +kernel
theorem dX8_nextPlan_33 : decode cX8_nextPlan 33 = .ok (.ifCond .ge 5, 3) := by decide +kernel
theorem dX8_nextPlan_36 : decode cX8_nextPlan 36 = .ok (.iconst 0, 1) := by decide +kernel
theorem dX8_nextPlan_37 : decode cX8_nextPlan 37 = .ok (.ireturn, 1) := by decide +kernel
theorem dX8_nextPlan_38 : decode cX8_nextPlan 38 = .ok (.aload_n 0, 1) := by decide +kernel
theorem dX8_nextPlan_39 : decode cX8_nextPlan 39 = .ok (.getfield 41, 3) := by decide +kernel
theorem dX8_nextPlan_42 : decode cX8_nextPlan 42 = .ok (.iload_n 1, 1) := by decide +kernel
theorem dX8_nextPlan_43 : decode cX8_nextPlan 43 = .ok (.dup2, 1) := by decide +kernel
theorem dX8_nextPlan_44 : decode cX8_nextPlan 44 = .ok (.iaload, 1) := by decide +kernel
theorem dX8_nextPlan_45 : decode cX8_nextPlan 45 = .ok (.iconst 1, 1) := by decide +kernel
theorem dX8_nextPlan_46 : decode cX8_nextPlan 46 = .ok (.iadd, 1) := by decide +kernel
theorem dX8_nextPlan_47 : decode cX8_nextPlan 47 = .ok (.iastore, 1) := by decide +kernel
theorem dX8_nextPlan_48 : decode cX8_nextPlan 48 = .ok (.iload_n 1, 1) := by decide +kernel
theorem dX8_nextPlan_49 : decode cX8_nextPlan 49 = .ok (.iconst 1, 1) := by decide +kernel
theorem dX8_nextPlan_50 : decode cX8_nextPlan 50 = .ok (.iadd, 1) := by decide +kernel
theorem dX8_nextPlan_51 : decode cX8_nextPlan 51 = .ok (.istore_n 2, 1) := by decide +kernel
theorem dX8_nextPlan_52 : decode cX8_nextPlan 52 = .ok (.iload_n 2, 1) := by decide +kernel
theorem dX8_nextPlan_53 : decode cX8_nextPlan 53 = .ok (.aload_n 0, 1) := by decide +kernel
theorem dX8_nextPlan_54 : decode cX8_nextPlan 54 = .ok (.getfield 78, 3) := by decide +kernel
theorem dX8_nextPlan_57 : decode cX8_nextPlan 57 = .ok (.if_icmp .ge 21, 3) := by decide +kernel
theorem dX8_nextPlan_60 : decode cX8_nextPlan 60 = .ok (.aload_n 0, 1) := by decide +kernel
theorem dX8_nextPlan_61 : decode cX8_nextPlan 61 = .ok (.getfield 41, 3) := by decide +kernel
theorem dX8_nextPlan_64 : decode cX8_nextPlan 64 = .ok (.iload_n 2, 1) := by decide +kernel
theorem dX8_nextPlan_65 : decode cX8_nextPlan 65 = .ok (.aload_n 0, 1) := by decide +kernel
theorem dX8_nextPlan_66 : decode cX8_nextPlan 66 = .ok (.getfield 41, 3) := by decide +kernel
theorem dX8_nextPlan_69 : decode cX8_nextPlan 69 = .ok (.iload_n 1, 1) := by decide +kernel
theorem dX8_nextPlan_70 : decode cX8_nextPlan 70 = .ok (.iaload, 1) := by decide +kernel
theorem dX8_nextPlan_71 : decode cX8_nextPlan 71 = .ok (.iastore, 1) := by decide +kernel
theorem dX8_nextPlan_72 : decode cX8_nextPlan 72 = .ok (.iinc 2 1, 3) := by decide +kernel
theorem dX8_nextPlan_75 : decode cX8_nextPlan 75 = .ok (.goto (-23), 3) := by decide +kernel
theorem dX8_nextPlan_78 : decode cX8_nextPlan 78 = .ok (.iconst 1, 1) := by decide +kernel
theorem dX8_nextPlan_79 : decode cX8_nextPlan 79 = .ok (.ireturn, 1) := by decide +kernel
theorem dX8_isOnce_0 : decode cX8_isOnce 0 = .ok (.iconst 0, 1) := by decide +kernel
theorem dX8_isOnce_1 : decode cX8_isOnce 1 = .ok (.istore_n 1, 1) := by decide +kernel
theorem dX8_isOnce_2 : decode cX8_isOnce 2 = .ok (.iconst 1, 1) := by decide +kernel
theorem dX8_isOnce_3 : decode cX8_isOnce 3 = .ok (.istore_n 2, 1) := by decide +kernel
theorem dX8_isOnce_4 : decode cX8_isOnce 4 = .ok (.iload_n 2, 1) := by decide +kernel
theorem dX8_isOnce_5 : decode cX8_isOnce 5 = .ok (.aload_n 0, 1) := by decide +kernel
theorem dX8_isOnce_6 : decode cX8_isOnce 6 = .ok (.getfield 78, 3) := by decide +kernel
theorem dX8_isOnce_9 : decode cX8_isOnce 9 = .ok (.if_icmp .ge 34, 3) := by decide +kernel
theorem dX8_isOnce_12 : decode cX8_isOnce 12 = .ok (.iload_n 1, 1) := by decide +kernel
theorem dX8_isOnce_13 : decode cX8_isOnce 13 = .ok (.aload_n 0, 1) := by decide +kernel
theorem dX8_isOnce_14 : decode cX8_isOnce 14 = .ok (.getfield 41, 3) := by decide +kernel
theorem dX8_isOnce_17 : decode cX8_isOnce 17 = .ok (.iload_n 2, 1) := by decide +kernel
theorem dX8_isOnce_18 : decode cX8_isOnce 18 = .ok (.iaload, 1) := by decide +kernel
theorem dX8_isOnce_19 : decode cX8_isOnce 19 = .ok (.aload_n 0, 1) := by decide +kernel
theorem dX8_isOnce_20 : decode cX8_isOnce 20 = .ok (.getfield 41, 3) := by decide +kernel
theorem dX8_isOnce_23 : decode cX8_isOnce 23 = .ok (.iload_n 2, 1) := by decide +kernel
theorem dX8_isOnce_24 : decode cX8_isOnce 24 = .ok (.iconst 1, 1) := by decide +kernel
theorem dX8_isOnce_25 : decode cX8_isOnce 25 = .ok (.isub, 1) := by decide +kernel
theorem dX8_isOnce_26 : decode cX8_isOnce 26 = .ok (.iaload, 1) := by decide +kernel
theorem dX8_isOnce_27 : decode cX8_isOnce 27 = .ok (.if_icmp .eq 7, 3) := by decide +kernel
theorem dX8_isOnce_30 : decode cX8_isOnce 30 = .ok (.iconst 1, 1) := by decide +kernel
theorem dX8_isOnce_31 : decode cX8_isOnce 31 = .ok (.goto 4, 3) := by decide +kernel
theorem dX8_isOnce_34 : decode cX8_isOnce 34 = .ok (.iconst 0, 1) := by decide +kernel
theorem dX8_isOnce_35 : decode cX8_isOnce 35 = .ok (.iadd, 1) := by decide +kernel
theorem dX8_isOnce_36 : decode cX8_isOnce 36 = .ok (.istore_n 1, 1) := by decide +kernel
theorem dX8_isOnce_37 : decode cX8_isOnce 37 = .ok (.iinc 2 1, 3) := by decide +kernel
theorem dX8_isOnce_40 : decode cX8_isOnce 40 = .ok (.goto (-36), 3) := by decide +kernel
theorem dX8_isOnce_43 : decode cX8_isOnce 43 = .ok (.iload_n 1, 1) := by decide +kernel
theorem dX8_isOnce_44 : decode cX8_isOnce 44 = .ok (.iconst 2, 1) := by decide +kernel
theorem dX8_isOnce_45 : decode cX8_isOnce 45 = .ok (.if_icmp .ge 7, 3) := by decide +kernel
theorem dX8_isOnce_48 : decode cX8_isOnce 48 = .ok (.iconst 1, 1) := by decide +kernel
theorem dX8_isOnce_49 : decode cX8_isOnce 49 = .ok (.goto 4, 3) := by decide +kernel
theorem dX8_isOnce_52 : decode cX8_isOnce 52 = .ok (.iconst 0, 1) := by decide +kernel
theorem dX8_isOnce_53 : decode cX8_isOnce 53 = .ok (.ireturn, 1) := by decide +kernel
theorem dX8_pickOf_0 : decode cX8_pickOf 0 = .ok (.bipush (-6), 2) := by decide +kernel
theorem dX8_pickOf_2 : decode cX8_pickOf 2 = .ok (.istore_n 3, 1) := by decide +kernel
theorem dX8_pickOf_3 : decode cX8_pickOf 3 = .ok (.iconst (-1), 1) := by decide +kernel
theorem dX8_pickOf_4 : decode cX8_pickOf 4 = .ok (.istore 4, 2) := by decide +kernel
theorem dX8_pickOf_6 : decode cX8_pickOf 6 = .ok (.iload_n 2, 1) := by decide +kernel
theorem dX8_pickOf_7 : decode cX8_pickOf 7 = .ok (.istore 5, 2) := by decide +kernel
theorem dX8_pickOf_9 : decode cX8_pickOf 9 = .ok (.iload 5, 2) := by decide +kernel
theorem dX8_pickOf_11 : decode cX8_pickOf 11 = .ok (.aload_n 0, 1) := by decide +kernel
theorem dX8_pickOf_12 : decode cX8_pickOf 12 = .ok (.getfield 78, 3) := by decide +kernel
theorem dX8_pickOf_15 : decode cX8_pickOf 15 = .ok (.if_icmp .ge 57, 3) := by decide +kernel
end
section
theorem dX8_pickOf_18 : decode cX8_pickOf 18 = .ok (.aload_n 0, 1) := by decide +kernel
theorem dX8_pickOf_19 : decode cX8_pickOf 19 = .ok (.iload_n 1, 1) := by decide +kernel
theorem dX8_pickOf_20 : decode cX8_pickOf 20 = .ok (.iload 5, 2) := by decide +kernel
theorem dX8_pickOf_22 : decode cX8_pickOf 22 = .ok (.invokevirtual 116, 3) := by decide +kernel
theorem dX8_pickOf_25 : decode cX8_pickOf 25 = .ok (.aload_n 0, 1) := by decide +kernel
theorem dX8_pickOf_26 : decode cX8_pickOf 26 = .ok (.getfield 7, 3) := by decide +kernel
theorem dX8_pickOf_29 : decode cX8_pickOf 29 = .ok (.aload_n 0, 1) := by decide +kernel
theorem dX8_pickOf_30 : decode cX8_pickOf 30 = .ok (.getfield 41, 3) := by decide +kernel
theorem dX8_pickOf_33 : decode cX8_pickOf 33 = .ok (.iload 5, 2) := by decide +kernel
theorem dX8_pickOf_35 : decode cX8_pickOf 35 = .ok (.iaload, 1) := by decide +kernel
theorem dX8_pickOf_36 : decode cX8_pickOf 36 = .ok (.iaload, 1) := by decide +kernel
theorem dX8_pickOf_37 : decode cX8_pickOf 37 = .ok (.isub, 1) := by decide +kernel
theorem dX8_pickOf_38 : decode cX8_pickOf 38 = .ok (.aload_n 0, 1) := by decide +kernel
theorem dX8_pickOf_39 : decode cX8_pickOf 39 = .ok (.getfield 22, 3) := by decide +kernel
theorem dX8_pickOf_42 : decode cX8_pickOf 42 = .ok (.iload_n 1, 1) := by decide +kernel
theorem dX8_pickOf_43 : decode cX8_pickOf 43 = .ok (.iaload, 1) := by decide +kernel
theorem dX8_pickOf_44 : decode cX8_pickOf 44 = .ok (.iload 5, 2) := by decide +kernel
theorem dX8_pickOf_46 : decode cX8_pickOf 46 = .ok (.iload_n 2, 1) := by decide +kernel
theorem dX8_pickOf_47 : decode cX8_pickOf 47 = .ok (.isub, 1) := by decide +kernel
theorem dX8_pickOf_48 : decode cX8_pickOf 48 = .ok (.imul, 1) := by decide +kernel
theorem dX8_pickOf_49 : decode cX8_pickOf 49 = .ok (.isub, 1) := by decide +kernel
theorem dX8_pickOf_50 : decode cX8_pickOf 50 = .ok (.istore 6, 2) := by decide +kernel
theorem dX8_pickOf_52 : decode cX8_pickOf 52 = .ok (.iload 6, 2) := by decide +kernel
theorem dX8_pickOf_54 : decode cX8_pickOf 54 = .ok (.iload 4, 2) := by decide +kernel
theorem dX8_pickOf_56 : decode cX8_pickOf 56 = .ok (.if_icmp .le 10, 3) := by decide +kernel
theorem dX8_pickOf_59 : decode cX8_pickOf 59 = .ok (.iload 6, 2) := by decide +kernel
theorem dX8_pickOf_61 : decode cX8_pickOf 61 = .ok (.istore 4, 2) := by decide +kernel
theorem dX8_pickOf_63 : decode cX8_pickOf 63 = .ok (.iload 5, 2) := by decide +kernel
theorem dX8_pickOf_65 : decode cX8_pickOf 65 = .ok (.istore_n 3, 1) := by decide +kernel
theorem dX8_pickOf_66 : decode cX8_pickOf 66 = .ok (.iinc 5 1, 3) := by decide +kernel
theorem dX8_pickOf_69 : decode cX8_pickOf 69 = .ok (.goto (-60), 3) := by decide +kernel
theorem dX8_pickOf_72 : decode cX8_pickOf 72 = .ok (.iload_n 3, 1) := by decide +kernel
theorem dX8_pickOf_73 : decode cX8_pickOf 73 = .ok (.ireturn, 1) := by decide +kernel
theorem dX8_meet_0 : decode cX8_meet 0 = .ok (.aload_n 0, 1) := by decide +kernel
theorem dX8_meet_1 : decode cX8_meet 1 = .ok (.invokevirtual 128, 3) := by decide +kernel
theorem dX8_meet_4 : decode cX8_meet 4 = .ok (.aload_n 0, 1) := by decide +kernel
theorem dX8_meet_5 : decode cX8_meet 5 = .ok (.getfield 78, 3) := by decide +kernel
theorem dX8_meet_8 : decode cX8_meet 8 = .ok (.iconst 1, 1) := by decide +kernel
theorem dX8_meet_9 : decode cX8_meet 9 = .ok (.isub, 1) := by decide +kernel
theorem dX8_meet_10 : decode cX8_meet 10 = .ok (.istore_n 1, 1) := by decide +kernel
theorem dX8_meet_11 : decode cX8_meet 11 = .ok (.iload_n 1, 1) := by decide +kernel
theorem dX8_meet_12 : decode cX8_meet 12 = .ok (.ifCond .lt 133, 3) := by decide +kernel
theorem dX8_meet_15 : decode cX8_meet 15 = .ok (.aload_n 0, 1) := by decide +kernel
theorem dX8_meet_16 : decode cX8_meet 16 = .ok (.getfield 7, 3) := by decide +kernel
theorem dX8_meet_19 : decode cX8_meet 19 = .ok (.aload_n 0, 1) := by decide +kernel
theorem dX8_meet_20 : decode cX8_meet 20 = .ok (.getfield 41, 3) := by decide +kernel
theorem dX8_meet_23 : decode cX8_meet 23 = .ok (.iload_n 1, 1) := by decide +kernel
theorem dX8_meet_24 : decode cX8_meet 24 = .ok (.iaload, 1) := by decide +kernel
theorem dX8_meet_25 : decode cX8_meet 25 = .ok (.iaload, 1) := by decide +kernel
theorem dX8_meet_26 : decode cX8_meet 26 = .ok (.istore_n 2, 1) := by decide +kernel
theorem dX8_meet_27 : decode cX8_meet 27 = .ok (.iload_n 1, 1) := by decide +kernel
theorem dX8_meet_28 : decode cX8_meet 28 = .ok (.istore_n 3, 1) := by decide +kernel
theorem dX8_meet_29 : decode cX8_meet 29 = .ok (.iload_n 3, 1) := by decide +kernel
theorem dX8_meet_30 : decode cX8_meet 30 = .ok (.ifCond .lt 109, 3) := by decide +kernel
theorem dX8_meet_33 : decode cX8_meet 33 = .ok (.aload_n 0, 1) := by decide +kernel
theorem dX8_meet_34 : decode cX8_meet 34 = .ok (.getfield 103, 3) := by decide +kernel
theorem dX8_meet_37 : decode cX8_meet 37 = .ok (.iconst 1, 1) := by decide +kernel
theorem dX8_meet_38 : decode cX8_meet 38 = .ok (.isub, 1) := by decide +kernel
theorem dX8_meet_39 : decode cX8_meet 39 = .ok (.istore 4, 2) := by decide +kernel
theorem dX8_meet_41 : decode cX8_meet 41 = .ok (.iload 4, 2) := by decide +kernel
theorem dX8_meet_43 : decode cX8_meet 43 = .ok (.ifCond .lt 90, 3) := by decide +kernel
theorem dX8_meet_46 : decode cX8_meet 46 = .ok (.aload_n 0, 1) := by decide +kernel
theorem dX8_meet_47 : decode cX8_meet 47 = .ok (.getfield 22, 3) := by decide +kernel
theorem dX8_meet_50 : decode cX8_meet 50 = .ok (.iload 4, 2) := by decide +kernel
theorem dX8_meet_52 : decode cX8_meet 52 = .ok (.iaload, 1) := by decide +kernel
theorem dX8_meet_53 : decode cX8_meet 53 = .ok (.ifCond .lt 7, 3) := by decide +kernel
theorem dX8_meet_56 : decode cX8_meet 56 = .ok (.iconst 1, 1) := by decide +kernel
theorem dX8_meet_57 : decode cX8_meet 57 = .ok (.goto 4, 3) := by decide +kernel
theorem dX8_meet_60 : decode cX8_meet 60 = .ok (.iconst 0, 1) := by decide +kernel
theorem dX8_meet_61 : decode cX8_meet 61 = .ok (.istore 5, 2) := by decide +kernel
theorem dX8_meet_63 : decode cX8_meet 63 = .ok (.iload 5, 2) := by decide +kernel
theorem dX8_meet_65 : decode cX8_meet 65 = .ok (.ifCond .eq 22, 3) := by decide +kernel
theorem dX8_meet_68 : decode cX8_meet 68 = .ok (.aload_n 0, 1) := by decide +kernel
theorem dX8_meet_69 : decode cX8_meet 69 = .ok (.iload 4, 2) := by decide +kernel
theorem dX8_meet_71 : decode cX8_meet 71 = .ok (.iload_n 3, 1) := by decide +kernel
theorem dX8_meet_72 : decode cX8_meet 72 = .ok (.invokevirtual 165, 3) := by decide +kernel
theorem dX8_meet_75 : decode cX8_meet 75 = .ok (.iload_n 1, 1) := by decide +kernel
theorem dX8_meet_76 : decode cX8_meet 76 = .ok (.if_icmp .ne 7, 3) := by decide +kernel
theorem dX8_meet_79 : decode cX8_meet 79 = .ok (.iconst 1, 1) := by decide +kernel
theorem dX8_meet_80 : decode cX8_meet 80 = .ok (.goto 28, 3) := by decide +kernel
theorem dX8_meet_83 : decode cX8_meet 83 = .ok (.iconst 0, 1) := by decide +kernel
theorem dX8_meet_84 : decode cX8_meet 84 = .ok (.goto 24, 3) := by decide +kernel
theorem dX8_meet_87 : decode cX8_meet 87 = .ok (.iload_n 3, 1) := by decide +kernel
theorem dX8_meet_88 : decode cX8_meet 88 = .ok (.iload_n 1, 1) := by decide +kernel
theorem dX8_meet_89 : decode cX8_meet 89 = .ok (.if_icmp .ne 18, 3) := by decide +kernel
theorem dX8_meet_92 : decode cX8_meet 92 = .ok (.aload_n 0, 1) := by decide +kernel
theorem dX8_meet_93 : decode cX8_meet 93 = .ok (.iload 4, 2) := by decide +kernel
theorem dX8_meet_95 : decode cX8_meet 95 = .ok (.iload_n 1, 1) := by decide +kernel
theorem dX8_meet_96 : decode cX8_meet 96 = .ok (.invokevirtual 116, 3) := by decide +kernel
theorem dX8_meet_99 : decode cX8_meet 99 = .ok (.iload_n 2, 1) := by decide +kernel
theorem dX8_meet_100 : decode cX8_meet 100 = .ok (.if_icmp .lt 7, 3) := by decide +kernel
theorem dX8_meet_103 : decode cX8_meet 103 = .ok (.iconst 1, 1) := by decide +kernel
theorem dX8_meet_104 : decode cX8_meet 104 = .ok (.goto 4, 3) := by decide +kernel
theorem dX8_meet_107 : decode cX8_meet 107 = .ok (.iconst 0, 1) := by decide +kernel
theorem dX8_meet_108 : decode cX8_meet 108 = .ok (.istore 6, 2) := by decide +kernel
theorem dX8_meet_110 : decode cX8_meet 110 = .ok (.iload 6, 2) := by decide +kernel
theorem dX8_meet_112 : decode cX8_meet 112 = .ok (.ifCond .eq 15, 3) := by decide +kernel
theorem dX8_meet_115 : decode cX8_meet 115 = .ok (.aload_n 0, 1) := by decide +kernel
theorem dX8_meet_116 : decode cX8_meet 116 = .ok (.aload_n 0, 1) := by decide +kernel
theorem dX8_meet_117 : decode cX8_meet 117 = .ok (.getfield 13, 3) := by decide +kernel
theorem dX8_meet_120 : decode cX8_meet 120 = .ok (.iload 4, 2) := by decide +kernel
theorem dX8_meet_122 : decode cX8_meet 122 = .ok (.iaload, 1) := by decide +kernel
theorem dX8_meet_123 : decode cX8_meet 123 = .ok (.iload_n 2, 1) := by decide +kernel
theorem dX8_meet_124 : decode cX8_meet 124 = .ok (.invokevirtual 124, 3) := by decide +kernel
theorem dX8_meet_127 : decode cX8_meet 127 = .ok (.iinc 4 (-1), 3) := by decide +kernel
theorem dX8_meet_130 : decode cX8_meet 130 = .ok (.goto (-89), 3) := by decide +kernel
theorem dX8_meet_133 : decode cX8_meet 133 = .ok (.iinc 3 (-1), 3) := by decide +kernel
theorem dX8_meet_136 : decode cX8_meet 136 = .ok (.goto (-107), 3) := by decide +kernel
theorem dX8_meet_139 : decode cX8_meet 139 = .ok (.iinc 1 (-1), 3) := by decide +kernel
theorem dX8_meet_142 : decode cX8_meet 142 = .ok (.goto (-131), 3) := by decide +kernel
theorem dX8_meet_145 : decode cX8_meet 145 = .ok (.aload_n 0, 1) := by decide +kernel
theorem dX8_meet_146 : decode cX8_meet 146 = .ok (.getfield 120, 3) := by decide +kernel
theorem dX8_meet_149 : decode cX8_meet 149 = .ok (.aload_n 0, 1) := by decide +kernel
theorem dX8_meet_150 : decode cX8_meet 150 = .ok (.getfield 103, 3) := by decide +kernel
theorem dX8_meet_153 : decode cX8_meet 153 = .ok (.aload_n 0, 1) := by decide +kernel
theorem dX8_meet_154 : decode cX8_meet 154 = .ok (.getfield 78, 3) := by decide +kernel
theorem dX8_meet_157 : decode cX8_meet 157 = .ok (.imul, 1) := by decide +kernel
theorem dX8_meet_158 : decode cX8_meet 158 = .ok (.invokestatic 161, 3) := by decide +kernel
theorem dX8_meet_161 : decode cX8_meet 161 = .ok (.lcmp, 1) := by decide +kernel
theorem dX8_meet_162 : decode cX8_meet 162 = .ok (.ifCond .ge 12, 3) := by decide +kernel
theorem dX8_meet_165 : decode cX8_meet 165 = .ok (.aload_n 0, 1) := by decide +kernel
theorem dX8_meet_166 : decode cX8_meet 166 = .ok (.iconst 0, 1) := by decide +kernel
theorem dX8_meet_167 : decode cX8_meet 167 = .ok (.iconst 0, 1) := by decide +kernel
theorem dX8_meet_168 : decode cX8_meet 168 = .ok (.invokevirtual 124, 3) := by decide +kernel
theorem dX8_meet_171 : decode cX8_meet 171 = .ok (.goto (-26), 3) := by decide +kernel
theorem dX8_meet_174 : decode cX8_meet 174 = .ok (.return_, 1) := by decide +kernel
theorem dX8_findKept_0 : decode cX8_findKept 0 = .ok (.ldc2_w 112, 3) := by decide +kernel
theorem dX8_findKept_3 : decode cX8_findKept 3 = .ok (.lstore_n 2, 1) := by decide +kernel
theorem dX8_findKept_4 : decode cX8_findKept 4 = .ok (.iconst 0, 1) := by decide +kernel
theorem dX8_findKept_5 : decode cX8_findKept 5 = .ok (.istore 4, 2) := by decide +kernel
theorem dX8_findKept_7 : decode cX8_findKept 7 = .ok (.iload 4, 2) := by decide +kernel
theorem dX8_findKept_9 : decode cX8_findKept 9 = .ok (.bipush 6, 2) := by decide +kernel
theorem dX8_findKept_11 : decode cX8_findKept 11 = .ok (.if_icmp .ge 17, 3) := by decide +kernel
theorem dX8_findKept_14 : decode cX8_findKept 14 = .ok (.aload_n 0, 1) := by decide +kernel
theorem dX8_findKept_15 : decode cX8_findKept 15 = .ok (.getfield 41, 3) := by decide +kernel
theorem dX8_findKept_18 : decode cX8_findKept 18 = .ok (.iload 4, 2) := by decide +kernel
theorem dX8_findKept_20 : decode cX8_findKept 20 = .ok (.iconst 0, 1) := by decide +kernel
theorem dX8_findKept_21 : decode cX8_findKept 21 = .ok (.iastore, 1) := by decide +kernel
theorem dX8_findKept_22 : decode cX8_findKept 22 = .ok (.iinc 4 1, 3) := by decide +kernel
theorem dX8_findKept_25 : decode cX8_findKept 25 = .ok (.goto (-18), 3) := by decide +kernel
theorem dX8_findKept_28 : decode cX8_findKept 28 = .ok (.iconst 1, 1) := by decide +kernel
theorem dX8_findKept_29 : decode cX8_findKept 29 = .ok (.istore 4, 2) := by decide +kernel
theorem dX8_findKept_31 : decode cX8_findKept 31 = .ok (.iload 4, 2) := by decide +kernel
theorem dX8_findKept_33 : decode cX8_findKept 33 = .ok (.ifCond .eq 97, 3) := by decide +kernel
theorem dX8_findKept_36 : decode cX8_findKept 36 = .ok (.iload_n 1, 1) := by decide +kernel
theorem dX8_findKept_37 : decode cX8_findKept 37 = .ok (.iconst 1, 1) := by decide +kernel
theorem dX8_findKept_38 : decode cX8_findKept 38 = .ok (.if_icmp .ne 10, 3) := by decide +kernel
theorem dX8_findKept_41 : decode cX8_findKept 41 = .ok (.aload_n 0, 1) := by decide +kernel
theorem dX8_findKept_42 : decode cX8_findKept 42 = .ok (.invokevirtual 168, 3) := by decide +kernel
theorem dX8_findKept_45 : decode cX8_findKept 45 = .ok (.ifCond .eq 76, 3) := by decide +kernel
theorem dX8_findKept_48 : decode cX8_findKept 48 = .ok (.iload_n 1, 1) := by decide +kernel
theorem dX8_findKept_49 : decode cX8_findKept 49 = .ok (.iconst 2, 1) := by decide +kernel
theorem dX8_findKept_50 : decode cX8_findKept 50 = .ok (.if_icmp .ne 10, 3) := by decide +kernel
theorem dX8_findKept_53 : decode cX8_findKept 53 = .ok (.aload_n 0, 1) := by decide +kernel
theorem dX8_findKept_54 : decode cX8_findKept 54 = .ok (.invokevirtual 172, 3) := by decide +kernel
theorem dX8_findKept_57 : decode cX8_findKept 57 = .ok (.goto 8, 3) := by decide +kernel
theorem dX8_findKept_60 : decode cX8_findKept 60 = .ok (.aload_n 0, 1) := by decide +kernel
theorem dX8_findKept_61 : decode cX8_findKept 61 = .ok (.iconst 0, 1) := by decide +kernel
theorem dX8_findKept_62 : decode cX8_findKept 62 = .ok (.invokevirtual 148, 3) := by decide +kernel
theorem dX8_findKept_65 : decode cX8_findKept 65 = .ok (.aload_n 0, 1) := by decide +kernel
theorem dX8_findKept_66 : decode cX8_findKept 66 = .ok (.getfield 28, 3) := by decide +kernel
theorem dX8_findKept_69 : decode cX8_findKept 69 = .ok (.aload_n 0, 1) := by decide +kernel
theorem dX8_findKept_70 : decode cX8_findKept 70 = .ok (.getfield 75, 3) := by decide +kernel
theorem dX8_findKept_73 : decode cX8_findKept 73 = .ok (.laload, 1) := by decide +kernel
theorem dX8_findKept_74 : decode cX8_findKept 74 = .ok (.lload_n 2, 1) := by decide +kernel
theorem dX8_findKept_75 : decode cX8_findKept 75 = .ok (.lcmp, 1) := by decide +kernel
theorem dX8_findKept_76 : decode cX8_findKept 76 = .ok (.ifCond .le 45, 3) := by decide +kernel
theorem dX8_findKept_79 : decode cX8_findKept 79 = .ok (.aload_n 0, 1) := by decide +kernel
theorem dX8_findKept_80 : decode cX8_findKept 80 = .ok (.getfield 28, 3) := by decide +kernel
theorem dX8_findKept_83 : decode cX8_findKept 83 = .ok (.aload_n 0, 1) := by decide +kernel
theorem dX8_findKept_84 : decode cX8_findKept 84 = .ok (.getfield 75, 3) := by decide +kernel
theorem dX8_findKept_87 : decode cX8_findKept 87 = .ok (.laload, 1) := by decide +kernel
theorem dX8_findKept_88 : decode cX8_findKept 88 = .ok (.lstore_n 2, 1) := by decide +kernel
theorem dX8_findKept_89 : decode cX8_findKept 89 = .ok (.iconst 0, 1) := by decide +kernel
theorem dX8_findKept_90 : decode cX8_findKept 90 = .ok (.istore 5, 2) := by decide +kernel
theorem dX8_findKept_92 : decode cX8_findKept 92 = .ok (.iload 5, 2) := by decide +kernel
theorem dX8_findKept_94 : decode cX8_findKept 94 = .ok (.aload_n 0, 1) := by decide +kernel
theorem dX8_findKept_95 : decode cX8_findKept 95 = .ok (.getfield 78, 3) := by decide +kernel
theorem dX8_findKept_98 : decode cX8_findKept 98 = .ok (.if_icmp .ge 23, 3) := by decide +kernel
theorem dX8_findKept_101 : decode cX8_findKept 101 = .ok (.aload_n 0, 1) := by decide +kernel
theorem dX8_findKept_102 : decode cX8_findKept 102 = .ok (.getfield 47, 3) := by decide +kernel
theorem dX8_findKept_105 : decode cX8_findKept 105 = .ok (.iload 5, 2) := by decide +kernel
theorem dX8_findKept_107 : decode cX8_findKept 107 = .ok (.aload_n 0, 1) := by decide +kernel
theorem dX8_findKept_108 : decode cX8_findKept 108 = .ok (.getfield 41, 3) := by decide +kernel
theorem dX8_findKept_111 : decode cX8_findKept 111 = .ok (.iload 5, 2) := by decide +kernel
theorem dX8_findKept_113 : decode cX8_findKept 113 = .ok (.iaload, 1) := by decide +kernel
theorem dX8_findKept_114 : decode cX8_findKept 114 = .ok (.iastore, 1) := by decide +kernel
theorem dX8_findKept_115 : decode cX8_findKept 115 = .ok (.iinc 5 1, 3) := by decide +kernel
theorem dX8_findKept_118 : decode cX8_findKept 118 = .ok (.goto (-26), 3) := by decide +kernel
theorem dX8_findKept_121 : decode cX8_findKept 121 = .ok (.aload_n 0, 1) := by decide +kernel
theorem dX8_findKept_122 : decode cX8_findKept 122 = .ok (.invokevirtual 175, 3) := by decide +kernel
theorem dX8_findKept_125 : decode cX8_findKept 125 = .ok (.istore 4, 2) := by decide +kernel
theorem dX8_findKept_127 : decode cX8_findKept 127 = .ok (.goto (-96), 3) := by decide +kernel
theorem dX8_findKept_130 : decode cX8_findKept 130 = .ok (.lload_n 2, 1) := by decide +kernel
theorem dX8_findKept_131 : decode cX8_findKept 131 = .ok (.lreturn, 1) := by decide +kernel
theorem dX8_kept_0 : decode cX8_kept 0 = .ok (.iload_n 1, 1) := by decide +kernel
theorem dX8_kept_1 : decode cX8_kept 1 = .ok (.i2l, 1) := by decide +kernel
theorem dX8_kept_2 : decode cX8_kept 2 = .ok (.lconst 0, 1) := by decide +kernel
theorem dX8_kept_3 : decode cX8_kept 3 = .ok (.ldc2_w 81, 3) := by decide +kernel
theorem dX8_kept_6 : decode cX8_kept 6 = .ok (.invokestatic 83, 3) := by decide +kernel
theorem dX8_kept_9 : decode cX8_kept 9 = .ok (.ifCond .eq 19, 3) := by decide +kernel
theorem dX8_kept_12 : decode cX8_kept 12 = .ok (.iload_n 2, 1) := by decide +kernel
theorem dX8_kept_13 : decode cX8_kept 13 = .ok (.i2l, 1) := by decide +kernel
theorem dX8_kept_14 : decode cX8_kept 14 = .ok (.lconst 0, 1) := by decide +kernel
theorem dX8_kept_15 : decode cX8_kept 15 = .ok (.aload_n 0, 1) := by decide +kernel
theorem dX8_kept_16 : decode cX8_kept 16 = .ok (.getfield 78, 3) := by decide +kernel
theorem dX8_kept_19 : decode cX8_kept 19 = .ok (.iconst 1, 1) := by decide +kernel
theorem dX8_kept_20 : decode cX8_kept 20 = .ok (.isub, 1) := by decide +kernel
theorem dX8_kept_21 : decode cX8_kept 21 = .ok (.i2l, 1) := by decide +kernel
theorem dX8_kept_22 : decode cX8_kept 22 = .ok (.invokestatic 83, 3) := by decide +kernel
theorem dX8_kept_25 : decode cX8_kept 25 = .ok (.ifCond .ne 6, 3) := by decide +kernel
theorem dX8_kept_28 : decode cX8_kept 28 = .ok (.bipush (-2), 2) := by decide +kernel
theorem dX8_kept_30 : decode cX8_kept 30 = .ok (.ireturn, 1) := by decide +kernel
theorem dX8_kept_31 : decode cX8_kept 31 = .ok (.aload_n 0, 1) := by decide +kernel
theorem dX8_kept_32 : decode cX8_kept 32 = .ok (.getfield 96, 3) := by decide +kernel
theorem dX8_kept_35 : decode cX8_kept 35 = .ok (.ifCond .ne 6, 3) := by decide +kernel
theorem dX8_kept_38 : decode cX8_kept 38 = .ok (.bipush (-3), 2) := by decide +kernel
theorem dX8_kept_40 : decode cX8_kept 40 = .ok (.ireturn, 1) := by decide +kernel
theorem dX8_kept_41 : decode cX8_kept 41 = .ok (.aload_n 0, 1) := by decide +kernel
theorem dX8_kept_42 : decode cX8_kept 42 = .ok (.iload_n 1, 1) := by decide +kernel
theorem dX8_kept_43 : decode cX8_kept 43 = .ok (.invokevirtual 178, 3) := by decide +kernel
theorem dX8_kept_46 : decode cX8_kept 46 = .ok (.pop2, 1) := by decide +kernel
theorem dX8_kept_47 : decode cX8_kept 47 = .ok (.aload_n 0, 1) := by decide +kernel
theorem dX8_kept_48 : decode cX8_kept 48 = .ok (.getfield 47, 3) := by decide +kernel
theorem dX8_kept_51 : decode cX8_kept 51 = .ok (.iload_n 2, 1) := by decide +kernel
theorem dX8_kept_52 : decode cX8_kept 52 = .ok (.iaload, 1) := by decide +kernel
theorem dX8_kept_53 : decode cX8_kept 53 = .ok (.ireturn, 1) := by decide +kernel
theorem dX8_keeps_0 : decode cX8_keeps 0 = .ok (.iload_n 1, 1) := by decide +kernel
theorem dX8_keeps_1 : decode cX8_keeps 1 = .ok (.i2l, 1) := by decide +kernel
theorem dX8_keeps_2 : decode cX8_keeps 2 = .ok (.lconst 0, 1) := by decide +kernel
theorem dX8_keeps_3 : decode cX8_keeps 3 = .ok (.ldc2_w 99, 3) := by decide +kernel
theorem dX8_keeps_6 : decode cX8_keeps 6 = .ok (.invokestatic 83, 3) := by decide +kernel
theorem dX8_keeps_9 : decode cX8_keeps 9 = .ok (.ifCond .eq 10, 3) := by decide +kernel
theorem dX8_keeps_12 : decode cX8_keeps 12 = .ok (.iload_n 2, 1) := by decide +kernel
theorem dX8_keeps_13 : decode cX8_keeps 13 = .ok (.invokestatic 138, 3) := by decide +kernel
theorem dX8_keeps_16 : decode cX8_keeps 16 = .ok (.ifCond .ne 7, 3) := by decide +kernel
theorem dX8_keeps_19 : decode cX8_keeps 19 = .ok (.ldc2_w 141, 3) := by decide +kernel
theorem dX8_keeps_22 : decode cX8_keeps 22 = .ok (.lreturn, 1) := by decide +kernel
theorem dX8_keeps_23 : decode cX8_keeps 23 = .ok (.aload_n 0, 1) := by decide +kernel
theorem dX8_keeps_24 : decode cX8_keeps 24 = .ok (.getfield 96, 3) := by decide +kernel
theorem dX8_keeps_27 : decode cX8_keeps 27 = .ok (.ifCond .ne 7, 3) := by decide +kernel
theorem dX8_keeps_30 : decode cX8_keeps 30 = .ok (.ldc2_w 143, 3) := by decide +kernel
theorem dX8_keeps_33 : decode cX8_keeps 33 = .ok (.lreturn, 1) := by decide +kernel
theorem dX8_keeps_34 : decode cX8_keeps 34 = .ok (.lconst 0, 1) := by decide +kernel
theorem dX8_keeps_35 : decode cX8_keeps 35 = .ok (.lstore_n 3, 1) := by decide +kernel
theorem dX8_keeps_36 : decode cX8_keeps 36 = .ok (.iload_n 1, 1) := by decide +kernel
theorem dX8_keeps_37 : decode cX8_keeps 37 = .ok (.iconst 3, 1) := by decide +kernel
theorem dX8_keeps_38 : decode cX8_keeps 38 = .ok (.if_icmp .ge 12, 3) := by decide +kernel
theorem dX8_keeps_41 : decode cX8_keeps 41 = .ok (.aload_n 0, 1) := by decide +kernel
theorem dX8_keeps_42 : decode cX8_keeps 42 = .ok (.iload_n 1, 1) := by decide +kernel
theorem dX8_keeps_43 : decode cX8_keeps 43 = .ok (.invokevirtual 178, 3) := by decide +kernel
theorem dX8_keeps_46 : decode cX8_keeps 46 = .ok (.lstore_n 3, 1) := by decide +kernel
theorem dX8_keeps_47 : decode cX8_keeps 47 = .ok (.goto 53, 3) := by decide +kernel
theorem dX8_keeps_50 : decode cX8_keeps 50 = .ok (.iload_n 1, 1) := by decide +kernel
theorem dX8_keeps_51 : decode cX8_keeps 51 = .ok (.iconst 3, 1) := by decide +kernel
theorem dX8_keeps_52 : decode cX8_keeps 52 = .ok (.if_icmp .ne 30, 3) := by decide +kernel
theorem dX8_keeps_55 : decode cX8_keeps 55 = .ok (.aload_n 0, 1) := by decide +kernel
theorem dX8_keeps_56 : decode cX8_keeps 56 = .ok (.invokevirtual 158, 3) := by decide +kernel
theorem dX8_keeps_59 : decode cX8_keeps 59 = .ok (.aload_n 0, 1) := by decide +kernel
theorem dX8_keeps_60 : decode cX8_keeps 60 = .ok (.getfield 32, 3) := by decide +kernel
theorem dX8_keeps_63 : decode cX8_keeps 63 = .ok (.aload_n 0, 1) := by decide +kernel
theorem dX8_keeps_64 : decode cX8_keeps 64 = .ok (.getfield 75, 3) := by decide +kernel
theorem dX8_keeps_67 : decode cX8_keeps 67 = .ok (.laload, 1) := by decide +kernel
theorem dX8_keeps_68 : decode cX8_keeps 68 = .ok (.lstore 5, 2) := by decide +kernel
theorem dX8_keeps_70 : decode cX8_keeps 70 = .ok (.lload 5, 2) := by decide +kernel
theorem dX8_keeps_72 : decode cX8_keeps 72 = .ok (.aload_n 0, 1) := by decide +kernel
theorem dX8_keeps_73 : decode cX8_keeps 73 = .ok (.iconst 0, 1) := by decide +kernel
theorem dX8_keeps_74 : decode cX8_keeps 74 = .ok (.invokevirtual 178, 3) := by decide +kernel
theorem dX8_keeps_77 : decode cX8_keeps 77 = .ok (.lsub, 1) := by decide +kernel
theorem dX8_keeps_78 : decode cX8_keeps 78 = .ok (.lstore_n 3, 1) := by decide +kernel
theorem dX8_keeps_79 : decode cX8_keeps 79 = .ok (.goto 21, 3) := by decide +kernel
theorem dX8_keeps_82 : decode cX8_keeps 82 = .ok (.aload_n 0, 1) := by decide +kernel
theorem dX8_keeps_83 : decode cX8_keeps 83 = .ok (.invokevirtual 145, 3) := by decide +kernel
theorem dX8_keeps_86 : decode cX8_keeps 86 = .ok (.aload_n 0, 1) := by decide +kernel
theorem dX8_keeps_87 : decode cX8_keeps 87 = .ok (.invokevirtual 172, 3) := by decide +kernel
theorem dX8_keeps_90 : decode cX8_keeps 90 = .ok (.aload_n 0, 1) := by decide +kernel
theorem dX8_keeps_91 : decode cX8_keeps 91 = .ok (.getfield 28, 3) := by decide +kernel
theorem dX8_keeps_94 : decode cX8_keeps 94 = .ok (.aload_n 0, 1) := by decide +kernel
theorem dX8_keeps_95 : decode cX8_keeps 95 = .ok (.getfield 75, 3) := by decide +kernel
theorem dX8_keeps_98 : decode cX8_keeps 98 = .ok (.laload, 1) := by decide +kernel
theorem dX8_keeps_99 : decode cX8_keeps 99 = .ok (.lstore_n 3, 1) := by decide +kernel
theorem dX8_keeps_100 : decode cX8_keeps 100 = .ok (.lload_n 3, 1) := by decide +kernel
theorem dX8_keeps_101 : decode cX8_keeps 101 = .ok (.aload_n 0, 1) := by decide +kernel
theorem dX8_keeps_102 : decode cX8_keeps 102 = .ok (.getfield 103, 3) := by decide +kernel
theorem dX8_keeps_105 : decode cX8_keeps 105 = .ok (.aload_n 0, 1) := by decide +kernel
theorem dX8_keeps_106 : decode cX8_keeps 106 = .ok (.getfield 78, 3) := by decide +kernel
theorem dX8_keeps_109 : decode cX8_keeps 109 = .ok (.imul, 1) := by decide +kernel
theorem dX8_keeps_110 : decode cX8_keeps 110 = .ok (.invokestatic 161, 3) := by decide +kernel
theorem dX8_keeps_113 : decode cX8_keeps 113 = .ok (.iload_n 2, 1) := by decide +kernel
theorem dX8_keeps_114 : decode cX8_keeps 114 = .ok (.invokestatic 151, 3) := by decide +kernel
theorem dX8_keeps_117 : decode cX8_keeps 117 = .ok (.lreturn, 1) := by decide +kernel
theorem dX8_rather_0 : decode cX8_rather 0 = .ok (.aload_n 0, 1) := by decide +kernel
theorem dX8_rather_1 : decode cX8_rather 1 = .ok (.getfield 96, 3) := by decide +kernel
theorem dX8_rather_4 : decode cX8_rather 4 = .ok (.ifCond .ne 6, 3) := by decide +kernel
theorem dX8_rather_7 : decode cX8_rather 7 = .ok (.bipush (-3), 2) := by decide +kernel
theorem dX8_rather_9 : decode cX8_rather 9 = .ok (.ireturn, 1) := by decide +kernel
theorem dX8_rather_10 : decode cX8_rather 10 = .ok (.aload_n 0, 1) := by decide +kernel
theorem dX8_rather_11 : decode cX8_rather 11 = .ok (.invokevirtual 158, 3) := by decide +kernel
theorem dX8_rather_14 : decode cX8_rather 14 = .ok (.aload_n 0, 1) := by decide +kernel
theorem dX8_rather_15 : decode cX8_rather 15 = .ok (.iconst 0, 1) := by decide +kernel
theorem dX8_rather_16 : decode cX8_rather 16 = .ok (.invokevirtual 178, 3) := by decide +kernel
theorem dX8_rather_19 : decode cX8_rather 19 = .ok (.pop2, 1) := by decide +kernel
theorem dX8_rather_20 : decode cX8_rather 20 = .ok (.iconst 0, 1) := by decide +kernel
theorem dX8_rather_21 : decode cX8_rather 21 = .ok (.istore_n 1, 1) := by decide +kernel
theorem dX8_rather_22 : decode cX8_rather 22 = .ok (.iload_n 1, 1) := by decide +kernel
theorem dX8_rather_23 : decode cX8_rather 23 = .ok (.aload_n 0, 1) := by decide +kernel
theorem dX8_rather_24 : decode cX8_rather 24 = .ok (.getfield 78, 3) := by decide +kernel
theorem dX8_rather_27 : decode cX8_rather 27 = .ok (.if_icmp .ge 21, 3) := by decide +kernel
theorem dX8_rather_30 : decode cX8_rather 30 = .ok (.aload_n 0, 1) := by decide +kernel
theorem dX8_rather_31 : decode cX8_rather 31 = .ok (.getfield 41, 3) := by decide +kernel
theorem dX8_rather_34 : decode cX8_rather 34 = .ok (.iload_n 1, 1) := by decide +kernel
theorem dX8_rather_35 : decode cX8_rather 35 = .ok (.aload_n 0, 1) := by decide +kernel
theorem dX8_rather_36 : decode cX8_rather 36 = .ok (.getfield 47, 3) := by decide +kernel
theorem dX8_rather_39 : decode cX8_rather 39 = .ok (.iload_n 1, 1) := by decide +kernel
theorem dX8_rather_40 : decode cX8_rather 40 = .ok (.iaload, 1) := by decide +kernel
theorem dX8_rather_41 : decode cX8_rather 41 = .ok (.iastore, 1) := by decide +kernel
theorem dX8_rather_42 : decode cX8_rather 42 = .ok (.iinc 1 1, 3) := by decide +kernel
theorem dX8_rather_45 : decode cX8_rather 45 = .ok (.goto (-23), 3) := by decide +kernel
theorem dX8_rather_48 : decode cX8_rather 48 = .ok (.iconst 0, 1) := by decide +kernel
theorem dX8_rather_49 : decode cX8_rather 49 = .ok (.istore_n 1, 1) := by decide +kernel
theorem dX8_rather_50 : decode cX8_rather 50 = .ok (.iload_n 1, 1) := by decide +kernel
theorem dX8_rather_51 : decode cX8_rather 51 = .ok (.aload_n 0, 1) := by decide +kernel
theorem dX8_rather_52 : decode cX8_rather 52 = .ok (.getfield 78, 3) := by decide +kernel
theorem dX8_rather_55 : decode cX8_rather 55 = .ok (.if_icmp .ge 74, 3) := by decide +kernel
theorem dX8_rather_58 : decode cX8_rather 58 = .ok (.aload_n 0, 1) := by decide +kernel
theorem dX8_rather_59 : decode cX8_rather 59 = .ok (.iload_n 1, 1) := by decide +kernel
theorem dX8_rather_60 : decode cX8_rather 60 = .ok (.invokevirtual 155, 3) := by decide +kernel
theorem dX8_rather_63 : decode cX8_rather 63 = .ok (.aload_n 0, 1) := by decide +kernel
theorem dX8_rather_64 : decode cX8_rather 64 = .ok (.iload_n 1, 1) := by decide +kernel
theorem dX8_rather_65 : decode cX8_rather 65 = .ok (.invokevirtual 148, 3) := by decide +kernel
theorem dX8_rather_68 : decode cX8_rather 68 = .ok (.iconst 0, 1) := by decide +kernel
theorem dX8_rather_69 : decode cX8_rather 69 = .ok (.istore_n 2, 1) := by decide +kernel
theorem dX8_rather_70 : decode cX8_rather 70 = .ok (.iload_n 2, 1) := by decide +kernel
theorem dX8_rather_71 : decode cX8_rather 71 = .ok (.aload_n 0, 1) := by decide +kernel
theorem dX8_rather_72 : decode cX8_rather 72 = .ok (.getfield 75, 3) := by decide +kernel
theorem dX8_rather_75 : decode cX8_rather 75 = .ok (.if_icmp .gt 48, 3) := by decide +kernel
theorem dX8_rather_78 : decode cX8_rather 78 = .ok (.aload_n 0, 1) := by decide +kernel
theorem dX8_rather_79 : decode cX8_rather 79 = .ok (.getfield 44, 3) := by decide +kernel
theorem dX8_rather_82 : decode cX8_rather 82 = .ok (.iload_n 2, 1) := by decide +kernel
theorem dX8_rather_83 : decode cX8_rather 83 = .ok (.laload, 1) := by decide +kernel
theorem dX8_rather_84 : decode cX8_rather 84 = .ok (.lconst 0, 1) := by decide +kernel
theorem dX8_rather_85 : decode cX8_rather 85 = .ok (.lcmp, 1) := by decide +kernel
theorem dX8_rather_86 : decode cX8_rather 86 = .ok (.ifCond .le 31, 3) := by decide +kernel
theorem dX8_rather_89 : decode cX8_rather 89 = .ok (.aload_n 0, 1) := by decide +kernel
theorem dX8_rather_90 : decode cX8_rather 90 = .ok (.getfield 32, 3) := by decide +kernel
theorem dX8_rather_93 : decode cX8_rather 93 = .ok (.bipush 13, 2) := by decide +kernel
theorem dX8_rather_95 : decode cX8_rather 95 = .ok (.iload_n 1, 1) := by decide +kernel
theorem dX8_rather_96 : decode cX8_rather 96 = .ok (.imul, 1) := by decide +kernel
theorem dX8_rather_97 : decode cX8_rather 97 = .ok (.iload_n 2, 1) := by decide +kernel
theorem dX8_rather_98 : decode cX8_rather 98 = .ok (.iadd, 1) := by decide +kernel
theorem dX8_rather_99 : decode cX8_rather 99 = .ok (.laload, 1) := by decide +kernel
theorem dX8_rather_100 : decode cX8_rather 100 = .ok (.aload_n 0, 1) := by decide +kernel
theorem dX8_rather_101 : decode cX8_rather 101 = .ok (.getfield 28, 3) := by decide +kernel
theorem dX8_rather_104 : decode cX8_rather 104 = .ok (.iload_n 2, 1) := by decide +kernel
theorem dX8_rather_105 : decode cX8_rather 105 = .ok (.laload, 1) := by decide +kernel
theorem dX8_rather_106 : decode cX8_rather 106 = .ok (.lcmp, 1) := by decide +kernel
theorem dX8_rather_107 : decode cX8_rather 107 = .ok (.ifCond .le 10, 3) := by decide +kernel
theorem dX8_rather_110 : decode cX8_rather 110 = .ok (.bipush 100, 2) := by decide +kernel
theorem dX8_rather_112 : decode cX8_rather 112 = .ok (.iload_n 1, 1) := by decide +kernel
theorem dX8_rather_113 : decode cX8_rather 113 = .ok (.imul, 1) := by decide +kernel
theorem dX8_rather_114 : decode cX8_rather 114 = .ok (.iload_n 2, 1) := by decide +kernel
theorem dX8_rather_115 : decode cX8_rather 115 = .ok (.iadd, 1) := by decide +kernel
theorem dX8_rather_116 : decode cX8_rather 116 = .ok (.ireturn, 1) := by decide +kernel
theorem dX8_rather_117 : decode cX8_rather 117 = .ok (.iinc 2 1, 3) := by decide +kernel
theorem dX8_rather_120 : decode cX8_rather 120 = .ok (.goto (-50), 3) := by decide +kernel
theorem dX8_rather_123 : decode cX8_rather 123 = .ok (.iinc 1 1, 3) := by decide +kernel
theorem dX8_rather_126 : decode cX8_rather 126 = .ok (.goto (-76), 3) := by decide +kernel
theorem dX8_rather_129 : decode cX8_rather 129 = .ok (.bipush (-6), 2) := by decide +kernel
theorem dX8_rather_131 : decode cX8_rather 131 = .ok (.ireturn, 1) := by decide +kernel
theorem dX8_picks_0 : decode cX8_picks 0 = .ok (.aload_n 0, 1) := by decide +kernel
theorem dX8_picks_1 : decode cX8_picks 1 = .ok (.iload_n 1, 1) := by decide +kernel
theorem dX8_picks_2 : decode cX8_picks 2 = .ok (.invokevirtual 106, 3) := by decide +kernel
theorem dX8_picks_5 : decode cX8_picks 5 = .ok (.ifCond .ne 5, 3) := by decide +kernel
theorem dX8_picks_8 : decode cX8_picks 8 = .ok (.iconst (-1), 1) := by decide +kernel
theorem dX8_picks_9 : decode cX8_picks 9 = .ok (.ireturn, 1) := by decide +kernel
theorem dX8_picks_10 : decode cX8_picks 10 = .ok (.iload_n 2, 1) := by decide +kernel
theorem dX8_picks_11 : decode cX8_picks 11 = .ok (.i2l, 1) := by decide +kernel
theorem dX8_picks_12 : decode cX8_picks 12 = .ok (.lconst 0, 1) := by decide +kernel
theorem dX8_picks_13 : decode cX8_picks 13 = .ok (.aload_n 0, 1) := by decide +kernel
theorem dX8_picks_14 : decode cX8_picks 14 = .ok (.getfield 78, 3) := by decide +kernel
theorem dX8_picks_17 : decode cX8_picks 17 = .ok (.iconst 1, 1) := by decide +kernel
theorem dX8_picks_18 : decode cX8_picks 18 = .ok (.isub, 1) := by decide +kernel
theorem dX8_picks_19 : decode cX8_picks 19 = .ok (.i2l, 1) := by decide +kernel
theorem dX8_picks_20 : decode cX8_picks 20 = .ok (.invokestatic 83, 3) := by decide +kernel
theorem dX8_picks_23 : decode cX8_picks 23 = .ok (.ifCond .ne 6, 3) := by decide +kernel
theorem dX8_picks_26 : decode cX8_picks 26 = .ok (.bipush (-2), 2) := by decide +kernel
theorem dX8_picks_28 : decode cX8_picks 28 = .ok (.ireturn, 1) := by decide +kernel
theorem dX8_picks_29 : decode cX8_picks 29 = .ok (.aload_n 0, 1) := by decide +kernel
theorem dX8_picks_30 : decode cX8_picks 30 = .ok (.getfield 96, 3) := by decide +kernel
theorem dX8_picks_33 : decode cX8_picks 33 = .ok (.ifCond .ne 6, 3) := by decide +kernel
theorem dX8_picks_36 : decode cX8_picks 36 = .ok (.bipush (-3), 2) := by decide +kernel
theorem dX8_picks_38 : decode cX8_picks 38 = .ok (.ireturn, 1) := by decide +kernel
theorem dX8_picks_39 : decode cX8_picks 39 = .ok (.aload_n 0, 1) := by decide +kernel
theorem dX8_picks_40 : decode cX8_picks 40 = .ok (.getfield 22, 3) := by decide +kernel
theorem dX8_picks_43 : decode cX8_picks 43 = .ok (.iload_n 1, 1) := by decide +kernel
theorem dX8_picks_44 : decode cX8_picks 44 = .ok (.iaload, 1) := by decide +kernel
theorem dX8_picks_45 : decode cX8_picks 45 = .ok (.ifCond .ge 6, 3) := by decide +kernel
theorem dX8_picks_48 : decode cX8_picks 48 = .ok (.bipush (-5), 2) := by decide +kernel
theorem dX8_picks_50 : decode cX8_picks 50 = .ok (.ireturn, 1) := by decide +kernel
theorem dX8_picks_51 : decode cX8_picks 51 = .ok (.aload_n 0, 1) := by decide +kernel
theorem dX8_picks_52 : decode cX8_picks 52 = .ok (.invokevirtual 145, 3) := by decide +kernel
theorem dX8_picks_55 : decode cX8_picks 55 = .ok (.aload_n 0, 1) := by decide +kernel
theorem dX8_picks_56 : decode cX8_picks 56 = .ok (.iload_n 1, 1) := by decide +kernel
theorem dX8_picks_57 : decode cX8_picks 57 = .ok (.iload_n 2, 1) := by decide +kernel
theorem dX8_picks_58 : decode cX8_picks 58 = .ok (.invokevirtual 165, 3) := by decide +kernel
theorem dX8_picks_61 : decode cX8_picks 61 = .ok (.ireturn, 1) := by decide +kernel
theorem dX8_made_0 : decode cX8_made 0 = .ok (.iload_n 1, 1) := by decide +kernel
theorem dX8_made_1 : decode cX8_made 1 = .ok (.i2l, 1) := by decide +kernel
theorem dX8_made_2 : decode cX8_made 2 = .ok (.lconst 0, 1) := by decide +kernel
theorem dX8_made_3 : decode cX8_made 3 = .ok (.ldc2_w 91, 3) := by decide +kernel
theorem dX8_made_6 : decode cX8_made 6 = .ok (.invokestatic 83, 3) := by decide +kernel
theorem dX8_made_9 : decode cX8_made 9 = .ok (.ifCond .ne 6, 3) := by decide +kernel
theorem dX8_made_12 : decode cX8_made 12 = .ok (.bipush (-2), 2) := by decide +kernel
theorem dX8_made_14 : decode cX8_made 14 = .ok (.ireturn, 1) := by decide +kernel
theorem dX8_made_15 : decode cX8_made 15 = .ok (.aload_n 0, 1) := by decide +kernel
theorem dX8_made_16 : decode cX8_made 16 = .ok (.getfield 96, 3) := by decide +kernel
theorem dX8_made_19 : decode cX8_made 19 = .ok (.ifCond .ne 6, 3) := by decide +kernel
theorem dX8_made_22 : decode cX8_made 22 = .ok (.bipush (-3), 2) := by decide +kernel
theorem dX8_made_24 : decode cX8_made 24 = .ok (.ireturn, 1) := by decide +kernel
theorem dX8_made_25 : decode cX8_made 25 = .ok (.aload_n 0, 1) := by decide +kernel
theorem dX8_made_26 : decode cX8_made 26 = .ok (.invokevirtual 158, 3) := by decide +kernel
theorem dX8_made_29 : decode cX8_made 29 = .ok (.aload_n 0, 1) := by decide +kernel
theorem dX8_made_30 : decode cX8_made 30 = .ok (.getfield 103, 3) := by decide +kernel
theorem dX8_made_33 : decode cX8_made 33 = .ok (.aload_n 0, 1) := by decide +kernel
theorem dX8_made_34 : decode cX8_made 34 = .ok (.getfield 78, 3) := by decide +kernel
theorem dX8_made_37 : decode cX8_made 37 = .ok (.imul, 1) := by decide +kernel
theorem dX8_made_38 : decode cX8_made 38 = .ok (.invokestatic 161, 3) := by decide +kernel
theorem dX8_made_41 : decode cX8_made 41 = .ok (.lstore_n 2, 1) := by decide +kernel
theorem dX8_made_42 : decode cX8_made 42 = .ok (.iconst 0, 1) := by decide +kernel
theorem dX8_made_43 : decode cX8_made 43 = .ok (.istore 4, 2) := by decide +kernel
theorem dX8_made_45 : decode cX8_made 45 = .ok (.iconst 1, 1) := by decide +kernel
theorem dX8_made_46 : decode cX8_made 46 = .ok (.istore 5, 2) := by decide +kernel
theorem dX8_made_48 : decode cX8_made 48 = .ok (.iload 5, 2) := by decide +kernel
theorem dX8_made_50 : decode cX8_made 50 = .ok (.bipush 12, 2) := by decide +kernel
theorem dX8_made_52 : decode cX8_made 52 = .ok (.if_icmp .gt 52, 3) := by decide +kernel
theorem dX8_made_55 : decode cX8_made 55 = .ok (.aload_n 0, 1) := by decide +kernel
theorem dX8_made_56 : decode cX8_made 56 = .ok (.getfield 32, 3) := by decide +kernel
theorem dX8_made_59 : decode cX8_made 59 = .ok (.iload 5, 2) := by decide +kernel
theorem dX8_made_61 : decode cX8_made 61 = .ok (.laload, 1) := by decide +kernel
theorem dX8_made_62 : decode cX8_made 62 = .ok (.iload_n 1, 1) := by decide +kernel
theorem dX8_made_63 : decode cX8_made 63 = .ok (.iload 5, 2) := by decide +kernel
theorem dX8_made_65 : decode cX8_made 65 = .ok (.imul, 1) := by decide +kernel
theorem dX8_made_66 : decode cX8_made 66 = .ok (.i2l, 1) := by decide +kernel
theorem dX8_made_67 : decode cX8_made 67 = .ok (.lload_n 2, 1) := by decide +kernel
theorem dX8_made_68 : decode cX8_made 68 = .ok (.lmul, 1) := by decide +kernel
theorem dX8_made_69 : decode cX8_made 69 = .ok (.lsub, 1) := by decide +kernel
theorem dX8_made_70 : decode cX8_made 70 = .ok (.aload_n 0, 1) := by decide +kernel
theorem dX8_made_71 : decode cX8_made 71 = .ok (.getfield 32, 3) := by decide +kernel
theorem dX8_made_74 : decode cX8_made 74 = .ok (.iload 4, 2) := by decide +kernel
theorem dX8_made_76 : decode cX8_made 76 = .ok (.laload, 1) := by decide +kernel
theorem dX8_made_77 : decode cX8_made 77 = .ok (.iload_n 1, 1) := by decide +kernel
theorem dX8_made_78 : decode cX8_made 78 = .ok (.iload 4, 2) := by decide +kernel
theorem dX8_made_80 : decode cX8_made 80 = .ok (.imul, 1) := by decide +kernel
theorem dX8_made_81 : decode cX8_made 81 = .ok (.i2l, 1) := by decide +kernel
theorem dX8_made_82 : decode cX8_made 82 = .ok (.lload_n 2, 1) := by decide +kernel
theorem dX8_made_83 : decode cX8_made 83 = .ok (.lmul, 1) := by decide +kernel
theorem dX8_made_84 : decode cX8_made 84 = .ok (.lsub, 1) := by decide +kernel
theorem dX8_made_85 : decode cX8_made 85 = .ok (.lcmp, 1) := by decide +kernel
theorem dX8_made_86 : decode cX8_made 86 = .ok (.ifCond .le 8, 3) := by decide +kernel
theorem dX8_made_89 : decode cX8_made 89 = .ok (.iload 5, 2) := by decide +kernel
theorem dX8_made_91 : decode cX8_made 91 = .ok (.goto 5, 3) := by decide +kernel
theorem dX8_made_94 : decode cX8_made 94 = .ok (.iload 4, 2) := by decide +kernel
theorem dX8_made_96 : decode cX8_made 96 = .ok (.istore 4, 2) := by decide +kernel
theorem dX8_made_98 : decode cX8_made 98 = .ok (.iinc 5 1, 3) := by decide +kernel
theorem dX8_made_101 : decode cX8_made 101 = .ok (.goto (-53), 3) := by decide +kernel
theorem dX8_made_104 : decode cX8_made 104 = .ok (.iload 4, 2) := by decide +kernel
theorem dX8_made_106 : decode cX8_made 106 = .ok (.ireturn, 1) := by decide +kernel
theorem dX8_say_0 : decode cX8_say 0 = .ok (.iload_n 1, 1) := by decide +kernel
theorem dX8_say_1 : decode cX8_say 1 = .ok (.i2l, 1) := by decide +kernel
theorem dX8_say_2 : decode cX8_say 2 = .ok (.ldc2_w 181, 3) := by decide +kernel
theorem dX8_say_5 : decode cX8_say 5 = .ok (.ldc2_w 183, 3) := by decide +kernel
theorem dX8_say_8 : decode cX8_say 8 = .ok (.invokestatic 83, 3) := by decide +kernel
theorem dX8_say_11 : decode cX8_say 11 = .ok (.ifCond .ne 6, 3) := by decide +kernel
theorem dX8_say_14 : decode cX8_say 14 = .ok (.bipush (-2), 2) := by decide +kernel
theorem dX8_say_16 : decode cX8_say 16 = .ok (.ireturn, 1) := by decide +kernel
theorem dX8_say_17 : decode cX8_say 17 = .ok (.aload_n 0, 1) := by decide +kernel
theorem dX8_say_18 : decode cX8_say 18 = .ok (.getfield 185, 3) := by decide +kernel
theorem dX8_say_21 : decode cX8_say 21 = .ok (.bipush 40, 2) := by decide +kernel
theorem dX8_say_23 : decode cX8_say 23 = .ok (.if_icmp .ne 6, 3) := by decide +kernel
theorem dX8_say_26 : decode cX8_say 26 = .ok (.bipush (-4), 2) := by decide +kernel
theorem dX8_say_28 : decode cX8_say 28 = .ok (.ireturn, 1) := by decide +kernel
theorem dX8_say_29 : decode cX8_say 29 = .ok (.aload_n 0, 1) := by decide +kernel
theorem dX8_say_30 : decode cX8_say 30 = .ok (.getfield 50, 3) := by decide +kernel
theorem dX8_say_33 : decode cX8_say 33 = .ok (.aload_n 0, 1) := by decide +kernel
theorem dX8_say_34 : decode cX8_say 34 = .ok (.getfield 185, 3) := by decide +kernel
theorem dX8_say_37 : decode cX8_say 37 = .ok (.iload_n 1, 1) := by decide +kernel
theorem dX8_say_38 : decode cX8_say 38 = .ok (.iastore, 1) := by decide +kernel
theorem dX8_say_39 : decode cX8_say 39 = .ok (.aload_n 0, 1) := by decide +kernel
theorem dX8_say_40 : decode cX8_say 40 = .ok (.dup, 1) := by decide +kernel
theorem dX8_say_41 : decode cX8_say 41 = .ok (.getfield 185, 3) := by decide +kernel
theorem dX8_say_44 : decode cX8_say 44 = .ok (.iconst 1, 1) := by decide +kernel
theorem dX8_say_45 : decode cX8_say 45 = .ok (.iadd, 1) := by decide +kernel
theorem dX8_say_46 : decode cX8_say 46 = .ok (.putfield 185, 3) := by decide +kernel
theorem dX8_say_49 : decode cX8_say 49 = .ok (.aload_n 0, 1) := by decide +kernel
theorem dX8_say_50 : decode cX8_say 50 = .ok (.getfield 185, 3) := by decide +kernel
theorem dX8_say_53 : decode cX8_say 53 = .ok (.ireturn, 1) := by decide +kernel
theorem dX8_wipe_0 : decode cX8_wipe 0 = .ok (.aload_n 0, 1) := by decide +kernel
theorem dX8_wipe_1 : decode cX8_wipe 1 = .ok (.getfield 185, 3) := by decide +kernel
theorem dX8_wipe_4 : decode cX8_wipe 4 = .ok (.istore_n 1, 1) := by decide +kernel
theorem dX8_wipe_5 : decode cX8_wipe 5 = .ok (.aload_n 0, 1) := by decide +kernel
theorem dX8_wipe_6 : decode cX8_wipe 6 = .ok (.iconst 0, 1) := by decide +kernel
theorem dX8_wipe_7 : decode cX8_wipe 7 = .ok (.putfield 185, 3) := by decide +kernel
theorem dX8_wipe_10 : decode cX8_wipe 10 = .ok (.iload_n 1, 1) := by decide +kernel
theorem dX8_wipe_11 : decode cX8_wipe 11 = .ok (.ireturn, 1) := by decide +kernel
theorem dX8_isHow_0 : decode cX8_isHow 0 = .ok (.iload_n 0, 1) := by decide +kernel
theorem dX8_isHow_1 : decode cX8_isHow 1 = .ok (.bipush 60, 2) := by decide +kernel
theorem dX8_isHow_3 : decode cX8_isHow 3 = .ok (.if_icmp .eq 15, 3) := by decide +kernel
theorem dX8_isHow_6 : decode cX8_isHow 6 = .ok (.iload_n 0, 1) := by decide +kernel
theorem dX8_isHow_7 : decode cX8_isHow 7 = .ok (.bipush 62, 2) := by decide +kernel
theorem dX8_isHow_9 : decode cX8_isHow 9 = .ok (.if_icmp .eq 9, 3) := by decide +kernel
theorem dX8_isHow_12 : decode cX8_isHow 12 = .ok (.iload_n 0, 1) := by decide +kernel
theorem dX8_isHow_13 : decode cX8_isHow 13 = .ok (.bipush 61, 2) := by decide +kernel
theorem dX8_isHow_15 : decode cX8_isHow 15 = .ok (.if_icmp .ne 7, 3) := by decide +kernel
theorem dX8_isHow_18 : decode cX8_isHow 18 = .ok (.iconst 1, 1) := by decide +kernel
theorem dX8_isHow_19 : decode cX8_isHow 19 = .ok (.goto 4, 3) := by decide +kernel
theorem dX8_isHow_22 : decode cX8_isHow 22 = .ok (.iconst 0, 1) := by decide +kernel
theorem dX8_isHow_23 : decode cX8_isHow 23 = .ok (.ireturn, 1) := by decide +kernel
theorem dX8_stepOf_0 : decode cX8_stepOf 0 = .ok (.iload_n 1, 1) := by decide +kernel
theorem dX8_stepOf_1 : decode cX8_stepOf 1 = .ok (.i2l, 1) := by decide +kernel
theorem dX8_stepOf_2 : decode cX8_stepOf 2 = .ok (.ldc2_w 188, 3) := by decide +kernel
theorem dX8_stepOf_5 : decode cX8_stepOf 5 = .ok (.ldc2_w 190, 3) := by decide +kernel
theorem dX8_stepOf_8 : decode cX8_stepOf 8 = .ok (.invokestatic 83, 3) := by decide +kernel
theorem dX8_stepOf_11 : decode cX8_stepOf 11 = .ok (.istore_n 2, 1) := by decide +kernel
theorem dX8_stepOf_12 : decode cX8_stepOf 12 = .ok (.iload_n 1, 1) := by decide +kernel
theorem dX8_stepOf_13 : decode cX8_stepOf 13 = .ok (.i2l, 1) := by decide +kernel
theorem dX8_stepOf_14 : decode cX8_stepOf 14 = .ok (.ldc2_w 188, 3) := by decide +kernel
theorem dX8_stepOf_17 : decode cX8_stepOf 17 = .ok (.ldc2_w 192, 3) := by decide +kernel
theorem dX8_stepOf_20 : decode cX8_stepOf 20 = .ok (.invokestatic 83, 3) := by decide +kernel
theorem dX8_stepOf_23 : decode cX8_stepOf 23 = .ok (.istore_n 3, 1) := by decide +kernel
theorem dX8_stepOf_24 : decode cX8_stepOf 24 = .ok (.iload_n 0, 1) := by decide +kernel
theorem dX8_stepOf_25 : decode cX8_stepOf 25 = .ok (.tableswitch 148 0 6 #[43, 70, 83, 93, 113, 125, 136], 43) := by decide +kernel
theorem dX8_stepOf_68 : decode cX8_stepOf 68 = .ok (.iload_n 1, 1) := by decide +kernel
theorem dX8_stepOf_69 : decode cX8_stepOf 69 = .ok (.bipush 108, 2) := by decide +kernel
theorem dX8_stepOf_71 : decode cX8_stepOf 71 = .ok (.if_icmp .eq 9, 3) := by decide +kernel
theorem dX8_stepOf_74 : decode cX8_stepOf 74 = .ok (.iload_n 1, 1) := by decide +kernel
theorem dX8_stepOf_75 : decode cX8_stepOf 75 = .ok (.bipush 100, 2) := by decide +kernel
theorem dX8_stepOf_77 : decode cX8_stepOf 77 = .ok (.if_icmp .ne 7, 3) := by decide +kernel
theorem dX8_stepOf_80 : decode cX8_stepOf 80 = .ok (.iconst 1, 1) := by decide +kernel
theorem dX8_stepOf_81 : decode cX8_stepOf 81 = .ok (.goto 13, 3) := by decide +kernel
theorem dX8_stepOf_84 : decode cX8_stepOf 84 = .ok (.iload_n 3, 1) := by decide +kernel
theorem dX8_stepOf_85 : decode cX8_stepOf 85 = .ok (.ifCond .eq 8, 3) := by decide +kernel
theorem dX8_stepOf_88 : decode cX8_stepOf 88 = .ok (.bipush 7, 2) := by decide +kernel
theorem dX8_stepOf_90 : decode cX8_stepOf 90 = .ok (.goto 4, 3) := by decide +kernel
theorem dX8_stepOf_93 : decode cX8_stepOf 93 = .ok (.iconst (-1), 1) := by decide +kernel
theorem dX8_stepOf_94 : decode cX8_stepOf 94 = .ok (.ireturn, 1) := by decide +kernel
theorem dX8_stepOf_95 : decode cX8_stepOf 95 = .ok (.iload_n 1, 1) := by decide +kernel
theorem dX8_stepOf_96 : decode cX8_stepOf 96 = .ok (.invokestatic 194, 3) := by decide +kernel
theorem dX8_stepOf_99 : decode cX8_stepOf 99 = .ok (.ifCond .eq 7, 3) := by decide +kernel
theorem dX8_stepOf_102 : decode cX8_stepOf 102 = .ok (.iconst 2, 1) := by decide +kernel
theorem dX8_stepOf_103 : decode cX8_stepOf 103 = .ok (.goto 4, 3) := by decide +kernel
theorem dX8_stepOf_106 : decode cX8_stepOf 106 = .ok (.iconst (-1), 1) := by decide +kernel
theorem dX8_stepOf_107 : decode cX8_stepOf 107 = .ok (.ireturn, 1) := by decide +kernel
theorem dX8_stepOf_108 : decode cX8_stepOf 108 = .ok (.iload_n 2, 1) := by decide +kernel
theorem dX8_stepOf_109 : decode cX8_stepOf 109 = .ok (.ifCond .eq 7, 3) := by decide +kernel
theorem dX8_stepOf_112 : decode cX8_stepOf 112 = .ok (.iconst 3, 1) := by decide +kernel
theorem dX8_stepOf_113 : decode cX8_stepOf 113 = .ok (.goto 4, 3) := by decide +kernel
theorem dX8_stepOf_116 : decode cX8_stepOf 116 = .ok (.iconst (-1), 1) := by decide +kernel
theorem dX8_stepOf_117 : decode cX8_stepOf 117 = .ok (.ireturn, 1) := by decide +kernel
theorem dX8_stepOf_118 : decode cX8_stepOf 118 = .ok (.iload_n 2, 1) := by decide +kernel
theorem dX8_stepOf_119 : decode cX8_stepOf 119 = .ok (.ifCond .eq 7, 3) := by decide +kernel
theorem dX8_stepOf_122 : decode cX8_stepOf 122 = .ok (.iconst 4, 1) := by decide +kernel
theorem dX8_stepOf_123 : decode cX8_stepOf 123 = .ok (.goto 14, 3) := by decide +kernel
theorem dX8_stepOf_126 : decode cX8_stepOf 126 = .ok (.iload_n 1, 1) := by decide +kernel
theorem dX8_stepOf_127 : decode cX8_stepOf 127 = .ok (.bipush 58, 2) := by decide +kernel
theorem dX8_stepOf_129 : decode cX8_stepOf 129 = .ok (.if_icmp .ne 7, 3) := by decide +kernel
theorem dX8_stepOf_132 : decode cX8_stepOf 132 = .ok (.iconst 5, 1) := by decide +kernel
theorem dX8_stepOf_133 : decode cX8_stepOf 133 = .ok (.goto 4, 3) := by decide +kernel
theorem dX8_stepOf_136 : decode cX8_stepOf 136 = .ok (.iconst (-1), 1) := by decide +kernel
theorem dX8_stepOf_137 : decode cX8_stepOf 137 = .ok (.ireturn, 1) := by decide +kernel
theorem dX8_stepOf_138 : decode cX8_stepOf 138 = .ok (.iload_n 1, 1) := by decide +kernel
theorem dX8_stepOf_139 : decode cX8_stepOf 139 = .ok (.bipush 58, 2) := by decide +kernel
theorem dX8_stepOf_141 : decode cX8_stepOf 141 = .ok (.if_icmp .ne 7, 3) := by decide +kernel
theorem dX8_stepOf_144 : decode cX8_stepOf 144 = .ok (.iconst 5, 1) := by decide +kernel
theorem dX8_stepOf_145 : decode cX8_stepOf 145 = .ok (.goto 4, 3) := by decide +kernel
theorem dX8_stepOf_148 : decode cX8_stepOf 148 = .ok (.iconst (-1), 1) := by decide +kernel
theorem dX8_stepOf_149 : decode cX8_stepOf 149 = .ok (.ireturn, 1) := by decide +kernel
theorem dX8_stepOf_150 : decode cX8_stepOf 150 = .ok (.iload_n 3, 1) := by decide +kernel
theorem dX8_stepOf_151 : decode cX8_stepOf 151 = .ok (.ifCond .eq 8, 3) := by decide +kernel
theorem dX8_stepOf_154 : decode cX8_stepOf 154 = .ok (.bipush 6, 2) := by decide +kernel
theorem dX8_stepOf_156 : decode cX8_stepOf 156 = .ok (.goto 4, 3) := by decide +kernel
theorem dX8_stepOf_159 : decode cX8_stepOf 159 = .ok (.iconst (-1), 1) := by decide +kernel
theorem dX8_stepOf_160 : decode cX8_stepOf 160 = .ok (.ireturn, 1) := by decide +kernel
theorem dX8_stepOf_161 : decode cX8_stepOf 161 = .ok (.iload_n 1, 1) := by decide +kernel
theorem dX8_stepOf_162 : decode cX8_stepOf 162 = .ok (.bipush 59, 2) := by decide +kernel
theorem dX8_stepOf_164 : decode cX8_stepOf 164 = .ok (.if_icmp .ne 7, 3) := by decide +kernel
theorem dX8_stepOf_167 : decode cX8_stepOf 167 = .ok (.iconst 0, 1) := by decide +kernel
theorem dX8_stepOf_168 : decode cX8_stepOf 168 = .ok (.goto 4, 3) := by decide +kernel
theorem dX8_stepOf_171 : decode cX8_stepOf 171 = .ok (.iconst (-1), 1) := by decide +kernel
theorem dX8_stepOf_172 : decode cX8_stepOf 172 = .ok (.ireturn, 1) := by decide +kernel
theorem dX8_stepOf_173 : decode cX8_stepOf 173 = .ok (.iconst (-1), 1) := by decide +kernel
theorem dX8_stepOf_174 : decode cX8_stepOf 174 = .ok (.ireturn, 1) := by decide +kernel
theorem dX8_fault_0 : decode cX8_fault 0 = .ok (.iconst 0, 1) := by decide +kernel
theorem dX8_fault_1 : decode cX8_fault 1 = .ok (.istore_n 1, 1) := by decide +kernel
theorem dX8_fault_2 : decode cX8_fault 2 = .ok (.iconst 0, 1) := by decide +kernel
theorem dX8_fault_3 : decode cX8_fault 3 = .ok (.istore_n 2, 1) := by decide +kernel
theorem dX8_fault_4 : decode cX8_fault 4 = .ok (.iload_n 2, 1) := by decide +kernel
theorem dX8_fault_5 : decode cX8_fault 5 = .ok (.aload_n 0, 1) := by decide +kernel
theorem dX8_fault_6 : decode cX8_fault 6 = .ok (.getfield 185, 3) := by decide +kernel
theorem dX8_fault_9 : decode cX8_fault 9 = .ok (.if_icmp .ge 26, 3) := by decide +kernel
theorem dX8_fault_12 : decode cX8_fault 12 = .ok (.iload_n 1, 1) := by decide +kernel
theorem dX8_fault_13 : decode cX8_fault 13 = .ok (.aload_n 0, 1) := by decide +kernel
theorem dX8_fault_14 : decode cX8_fault 14 = .ok (.getfield 50, 3) := by decide +kernel
theorem dX8_fault_17 : decode cX8_fault 17 = .ok (.iload_n 2, 1) := by decide +kernel
theorem dX8_fault_18 : decode cX8_fault 18 = .ok (.iaload, 1) := by decide +kernel
theorem dX8_fault_19 : decode cX8_fault 19 = .ok (.invokestatic 197, 3) := by decide +kernel
theorem dX8_fault_22 : decode cX8_fault 22 = .ok (.istore_n 1, 1) := by decide +kernel
theorem dX8_fault_23 : decode cX8_fault 23 = .ok (.iload_n 1, 1) := by decide +kernel
theorem dX8_fault_24 : decode cX8_fault 24 = .ok (.ifCond .ge 5, 3) := by decide +kernel
theorem dX8_fault_27 : decode cX8_fault 27 = .ok (.iload_n 2, 1) := by decide +kernel
theorem dX8_fault_28 : decode cX8_fault 28 = .ok (.ireturn, 1) := by decide +kernel
theorem dX8_fault_29 : decode cX8_fault 29 = .ok (.iinc 2 1, 3) := by decide +kernel
theorem dX8_fault_32 : decode cX8_fault 32 = .ok (.goto (-28), 3) := by decide +kernel
theorem dX8_fault_35 : decode cX8_fault 35 = .ok (.iload_n 1, 1) := by decide +kernel
theorem dX8_fault_36 : decode cX8_fault 36 = .ok (.bipush 7, 2) := by decide +kernel
theorem dX8_fault_38 : decode cX8_fault 38 = .ok (.if_icmp .ne 8, 3) := by decide +kernel
theorem dX8_fault_41 : decode cX8_fault 41 = .ok (.bipush (-6), 2) := by decide +kernel
theorem dX8_fault_43 : decode cX8_fault 43 = .ok (.goto 7, 3) := by decide +kernel
theorem dX8_fault_46 : decode cX8_fault 46 = .ok (.aload_n 0, 1) := by decide +kernel
theorem dX8_fault_47 : decode cX8_fault 47 = .ok (.getfield 185, 3) := by decide +kernel
theorem dX8_fault_50 : decode cX8_fault 50 = .ok (.ireturn, 1) := by decide +kernel
theorem dX8_rule_0 : decode cX8_rule 0 = .ok (.aload_n 0, 1) := by decide +kernel
theorem dX8_rule_1 : decode cX8_rule 1 = .ok (.invokevirtual 200, 3) := by decide +kernel
theorem dX8_rule_4 : decode cX8_rule 4 = .ok (.ifCond .lt 6, 3) := by decide +kernel
theorem dX8_rule_7 : decode cX8_rule 7 = .ok (.bipush (-5), 2) := by decide +kernel
theorem dX8_rule_9 : decode cX8_rule 9 = .ok (.ireturn, 1) := by decide +kernel
theorem dX8_rule_10 : decode cX8_rule 10 = .ok (.aload_n 0, 1) := by decide +kernel
theorem dX8_rule_11 : decode cX8_rule 11 = .ok (.iconst 0, 1) := by decide +kernel
theorem dX8_rule_12 : decode cX8_rule 12 = .ok (.putfield 204, 3) := by decide +kernel
theorem dX8_rule_15 : decode cX8_rule 15 = .ok (.iconst 0, 1) := by decide +kernel
theorem dX8_rule_16 : decode cX8_rule 16 = .ok (.istore_n 1, 1) := by decide +kernel
theorem dX8_rule_17 : decode cX8_rule 17 = .ok (.iconst 0, 1) := by decide +kernel
theorem dX8_rule_18 : decode cX8_rule 18 = .ok (.istore_n 2, 1) := by decide +kernel
theorem dX8_rule_19 : decode cX8_rule 19 = .ok (.iload_n 2, 1) := by decide +kernel
theorem dX8_rule_20 : decode cX8_rule 20 = .ok (.aload_n 0, 1) := by decide +kernel
theorem dX8_rule_21 : decode cX8_rule 21 = .ok (.getfield 185, 3) := by decide +kernel
theorem dX8_rule_24 : decode cX8_rule 24 = .ok (.if_icmp .ge 125, 3) := by decide +kernel
theorem dX8_rule_27 : decode cX8_rule 27 = .ok (.aload_n 0, 1) := by decide +kernel
theorem dX8_rule_28 : decode cX8_rule 28 = .ok (.getfield 50, 3) := by decide +kernel
theorem dX8_rule_31 : decode cX8_rule 31 = .ok (.iload_n 2, 1) := by decide +kernel
theorem dX8_rule_32 : decode cX8_rule 32 = .ok (.iaload, 1) := by decide +kernel
theorem dX8_rule_33 : decode cX8_rule 33 = .ok (.istore_n 3, 1) := by decide +kernel
theorem dX8_rule_34 : decode cX8_rule 34 = .ok (.iload_n 3, 1) := by decide +kernel
theorem dX8_rule_35 : decode cX8_rule 35 = .ok (.i2l, 1) := by decide +kernel
theorem dX8_rule_36 : decode cX8_rule 36 = .ok (.ldc2_w 188, 3) := by decide +kernel
theorem dX8_rule_39 : decode cX8_rule 39 = .ok (.ldc2_w 190, 3) := by decide +kernel
theorem dX8_rule_42 : decode cX8_rule 42 = .ok (.invokestatic 83, 3) := by decide +kernel
theorem dX8_rule_45 : decode cX8_rule 45 = .ok (.ifCond .eq 16, 3) := by decide +kernel
theorem dX8_rule_48 : decode cX8_rule 48 = .ok (.bipush 10, 2) := by decide +kernel
theorem dX8_rule_50 : decode cX8_rule 50 = .ok (.iload_n 1, 1) := by decide +kernel
theorem dX8_rule_51 : decode cX8_rule 51 = .ok (.imul, 1) := by decide +kernel
theorem dX8_rule_52 : decode cX8_rule 52 = .ok (.iload_n 3, 1) := by decide +kernel
theorem dX8_rule_53 : decode cX8_rule 53 = .ok (.iadd, 1) := by decide +kernel
theorem dX8_rule_54 : decode cX8_rule 54 = .ok (.bipush 48, 2) := by decide +kernel
theorem dX8_rule_56 : decode cX8_rule 56 = .ok (.isub, 1) := by decide +kernel
theorem dX8_rule_57 : decode cX8_rule 57 = .ok (.istore_n 1, 1) := by decide +kernel
theorem dX8_rule_58 : decode cX8_rule 58 = .ok (.goto 85, 3) := by decide +kernel
theorem dX8_rule_61 : decode cX8_rule 61 = .ok (.iload_n 3, 1) := by decide +kernel
theorem dX8_rule_62 : decode cX8_rule 62 = .ok (.bipush 58, 2) := by decide +kernel
theorem dX8_rule_64 : decode cX8_rule 64 = .ok (.if_icmp .ne 18, 3) := by decide +kernel
theorem dX8_rule_67 : decode cX8_rule 67 = .ok (.aload_n 0, 1) := by decide +kernel
theorem dX8_rule_68 : decode cX8_rule 68 = .ok (.getfield 59, 3) := by decide +kernel
theorem dX8_rule_71 : decode cX8_rule 71 = .ok (.aload_n 0, 1) := by decide +kernel
theorem dX8_rule_72 : decode cX8_rule 72 = .ok (.getfield 204, 3) := by decide +kernel
theorem dX8_rule_75 : decode cX8_rule 75 = .ok (.iload_n 1, 1) := by decide +kernel
theorem dX8_rule_76 : decode cX8_rule 76 = .ok (.iastore, 1) := by decide +kernel
theorem dX8_rule_77 : decode cX8_rule 77 = .ok (.iconst 0, 1) := by decide +kernel
theorem dX8_rule_78 : decode cX8_rule 78 = .ok (.istore_n 1, 1) := by decide +kernel
theorem dX8_rule_79 : decode cX8_rule 79 = .ok (.goto 64, 3) := by decide +kernel
theorem dX8_rule_82 : decode cX8_rule 82 = .ok (.iload_n 3, 1) := by decide +kernel
theorem dX8_rule_83 : decode cX8_rule 83 = .ok (.bipush 59, 2) := by decide +kernel
theorem dX8_rule_85 : decode cX8_rule 85 = .ok (.if_icmp .ne 28, 3) := by decide +kernel
theorem dX8_rule_88 : decode cX8_rule 88 = .ok (.aload_n 0, 1) := by decide +kernel
theorem dX8_rule_89 : decode cX8_rule 89 = .ok (.getfield 62, 3) := by decide +kernel
theorem dX8_rule_92 : decode cX8_rule 92 = .ok (.aload_n 0, 1) := by decide +kernel
theorem dX8_rule_93 : decode cX8_rule 93 = .ok (.getfield 204, 3) := by decide +kernel
theorem dX8_rule_96 : decode cX8_rule 96 = .ok (.iload_n 1, 1) := by decide +kernel
theorem dX8_rule_97 : decode cX8_rule 97 = .ok (.iastore, 1) := by decide +kernel
theorem dX8_rule_98 : decode cX8_rule 98 = .ok (.aload_n 0, 1) := by decide +kernel
theorem dX8_rule_99 : decode cX8_rule 99 = .ok (.dup, 1) := by decide +kernel
theorem dX8_rule_100 : decode cX8_rule 100 = .ok (.getfield 204, 3) := by decide +kernel
theorem dX8_rule_103 : decode cX8_rule 103 = .ok (.iconst 1, 1) := by decide +kernel
theorem dX8_rule_104 : decode cX8_rule 104 = .ok (.iadd, 1) := by decide +kernel
theorem dX8_rule_105 : decode cX8_rule 105 = .ok (.putfield 204, 3) := by decide +kernel
theorem dX8_rule_108 : decode cX8_rule 108 = .ok (.iconst 0, 1) := by decide +kernel
theorem dX8_rule_109 : decode cX8_rule 109 = .ok (.istore_n 1, 1) := by decide +kernel
theorem dX8_rule_110 : decode cX8_rule 110 = .ok (.goto 33, 3) := by decide +kernel
theorem dX8_rule_113 : decode cX8_rule 113 = .ok (.iload_n 3, 1) := by decide +kernel
theorem dX8_rule_114 : decode cX8_rule 114 = .ok (.invokestatic 194, 3) := by decide +kernel
theorem dX8_rule_117 : decode cX8_rule 117 = .ok (.ifCond .eq 16, 3) := by decide +kernel
theorem dX8_rule_120 : decode cX8_rule 120 = .ok (.aload_n 0, 1) := by decide +kernel
theorem dX8_rule_121 : decode cX8_rule 121 = .ok (.getfield 56, 3) := by decide +kernel
theorem dX8_rule_124 : decode cX8_rule 124 = .ok (.aload_n 0, 1) := by decide +kernel
theorem dX8_rule_125 : decode cX8_rule 125 = .ok (.getfield 204, 3) := by decide +kernel
theorem dX8_rule_128 : decode cX8_rule 128 = .ok (.iload_n 3, 1) := by decide +kernel
theorem dX8_rule_129 : decode cX8_rule 129 = .ok (.iastore, 1) := by decide +kernel
theorem dX8_rule_130 : decode cX8_rule 130 = .ok (.goto 13, 3) := by decide +kernel
theorem dX8_rule_133 : decode cX8_rule 133 = .ok (.aload_n 0, 1) := by decide +kernel
theorem dX8_rule_134 : decode cX8_rule 134 = .ok (.getfield 53, 3) := by decide +kernel
theorem dX8_rule_137 : decode cX8_rule 137 = .ok (.aload_n 0, 1) := by decide +kernel
theorem dX8_rule_138 : decode cX8_rule 138 = .ok (.getfield 204, 3) := by decide +kernel
theorem dX8_rule_141 : decode cX8_rule 141 = .ok (.iload_n 3, 1) := by decide +kernel
theorem dX8_rule_142 : decode cX8_rule 142 = .ok (.iastore, 1) := by decide +kernel
theorem dX8_rule_143 : decode cX8_rule 143 = .ok (.iinc 2 1, 3) := by decide +kernel
theorem dX8_rule_146 : decode cX8_rule 146 = .ok (.goto (-127), 3) := by decide +kernel
theorem dX8_rule_149 : decode cX8_rule 149 = .ok (.aload_n 0, 1) := by decide +kernel
theorem dX8_rule_150 : decode cX8_rule 150 = .ok (.iload_n 1, 1) := by decide +kernel
theorem dX8_rule_151 : decode cX8_rule 151 = .ok (.putfield 65, 3) := by decide +kernel
theorem dX8_rule_154 : decode cX8_rule 154 = .ok (.aload_n 0, 1) := by decide +kernel
theorem dX8_rule_155 : decode cX8_rule 155 = .ok (.iconst 0, 1) := by decide +kernel
theorem dX8_rule_156 : decode cX8_rule 156 = .ok (.putfield 185, 3) := by decide +kernel
theorem dX8_rule_159 : decode cX8_rule 159 = .ok (.aload_n 0, 1) := by decide +kernel
theorem dX8_rule_160 : decode cX8_rule 160 = .ok (.getfield 204, 3) := by decide +kernel
theorem dX8_rule_163 : decode cX8_rule 163 = .ok (.ireturn, 1) := by decide +kernel
theorem dX8_askedAt_0 : decode cX8_askedAt 0 = .ok (.aload_n 0, 1) := by decide +kernel
theorem dX8_askedAt_1 : decode cX8_askedAt 1 = .ok (.getfield 65, 3) := by decide +kernel
theorem dX8_askedAt_4 : decode cX8_askedAt 4 = .ok (.istore_n 3, 1) := by decide +kernel
theorem dX8_askedAt_5 : decode cX8_askedAt 5 = .ok (.aload_n 0, 1) := by decide +kernel
theorem dX8_askedAt_6 : decode cX8_askedAt 6 = .ok (.getfield 204, 3) := by decide +kernel
theorem dX8_askedAt_9 : decode cX8_askedAt 9 = .ok (.iconst 1, 1) := by decide +kernel
theorem dX8_askedAt_10 : decode cX8_askedAt 10 = .ok (.isub, 1) := by decide +kernel
theorem dX8_askedAt_11 : decode cX8_askedAt 11 = .ok (.istore 4, 2) := by decide +kernel
theorem dX8_askedAt_13 : decode cX8_askedAt 13 = .ok (.iload 4, 2) := by decide +kernel
theorem dX8_askedAt_15 : decode cX8_askedAt 15 = .ok (.ifCond .lt 122, 3) := by decide +kernel
theorem dX8_askedAt_18 : decode cX8_askedAt 18 = .ok (.aload_n 0, 1) := by decide +kernel
theorem dX8_askedAt_19 : decode cX8_askedAt 19 = .ok (.getfield 53, 3) := by decide +kernel
theorem dX8_askedAt_22 : decode cX8_askedAt 22 = .ok (.iload 4, 2) := by decide +kernel
theorem dX8_askedAt_24 : decode cX8_askedAt 24 = .ok (.iaload, 1) := by decide +kernel
theorem dX8_askedAt_25 : decode cX8_askedAt 25 = .ok (.bipush 108, 2) := by decide +kernel
theorem dX8_askedAt_27 : decode cX8_askedAt 27 = .ok (.if_icmp .ne 7, 3) := by decide +kernel
theorem dX8_askedAt_30 : decode cX8_askedAt 30 = .ok (.iload_n 2, 1) := by decide +kernel
theorem dX8_askedAt_31 : decode cX8_askedAt 31 = .ok (.goto 4, 3) := by decide +kernel
theorem dX8_askedAt_34 : decode cX8_askedAt 34 = .ok (.iload_n 1, 1) := by decide +kernel
theorem dX8_askedAt_35 : decode cX8_askedAt 35 = .ok (.istore 5, 2) := by decide +kernel
theorem dX8_askedAt_37 : decode cX8_askedAt 37 = .ok (.aload_n 0, 1) := by decide +kernel
theorem dX8_askedAt_38 : decode cX8_askedAt 38 = .ok (.getfield 59, 3) := by decide +kernel
theorem dX8_askedAt_41 : decode cX8_askedAt 41 = .ok (.iload 4, 2) := by decide +kernel
theorem dX8_askedAt_43 : decode cX8_askedAt 43 = .ok (.iaload, 1) := by decide +kernel
theorem dX8_askedAt_44 : decode cX8_askedAt 44 = .ok (.istore 6, 2) := by decide +kernel
theorem dX8_askedAt_46 : decode cX8_askedAt 46 = .ok (.aload_n 0, 1) := by decide +kernel
theorem dX8_askedAt_47 : decode cX8_askedAt 47 = .ok (.getfield 56, 3) := by decide +kernel
theorem dX8_askedAt_50 : decode cX8_askedAt 50 = .ok (.iload 4, 2) := by decide +kernel
theorem dX8_askedAt_52 : decode cX8_askedAt 52 = .ok (.iaload, 1) := by decide +kernel
theorem dX8_askedAt_53 : decode cX8_askedAt 53 = .ok (.bipush 60, 2) := by decide +kernel
theorem dX8_askedAt_55 : decode cX8_askedAt 55 = .ok (.if_icmp .ne 18, 3) := by decide +kernel
theorem dX8_askedAt_58 : decode cX8_askedAt 58 = .ok (.iload 5, 2) := by decide +kernel
theorem dX8_askedAt_60 : decode cX8_askedAt 60 = .ok (.iload 6, 2) := by decide +kernel
theorem dX8_askedAt_62 : decode cX8_askedAt 62 = .ok (.if_icmp .ge 7, 3) := by decide +kernel
theorem dX8_askedAt_65 : decode cX8_askedAt 65 = .ok (.iconst 1, 1) := by decide +kernel
theorem dX8_askedAt_66 : decode cX8_askedAt 66 = .ok (.goto 46, 3) := by decide +kernel
theorem dX8_askedAt_69 : decode cX8_askedAt 69 = .ok (.iconst 0, 1) := by decide +kernel
theorem dX8_askedAt_70 : decode cX8_askedAt 70 = .ok (.goto 42, 3) := by decide +kernel
theorem dX8_askedAt_73 : decode cX8_askedAt 73 = .ok (.aload_n 0, 1) := by decide +kernel
theorem dX8_askedAt_74 : decode cX8_askedAt 74 = .ok (.getfield 56, 3) := by decide +kernel
theorem dX8_askedAt_77 : decode cX8_askedAt 77 = .ok (.iload 4, 2) := by decide +kernel
theorem dX8_askedAt_79 : decode cX8_askedAt 79 = .ok (.iaload, 1) := by decide +kernel
theorem dX8_askedAt_80 : decode cX8_askedAt 80 = .ok (.bipush 62, 2) := by decide +kernel
theorem dX8_askedAt_82 : decode cX8_askedAt 82 = .ok (.if_icmp .ne 18, 3) := by decide +kernel
theorem dX8_askedAt_85 : decode cX8_askedAt 85 = .ok (.iload 5, 2) := by decide +kernel
theorem dX8_askedAt_87 : decode cX8_askedAt 87 = .ok (.iload 6, 2) := by decide +kernel
theorem dX8_askedAt_89 : decode cX8_askedAt 89 = .ok (.if_icmp .le 7, 3) := by decide +kernel
theorem dX8_askedAt_92 : decode cX8_askedAt 92 = .ok (.iconst 1, 1) := by decide +kernel
theorem dX8_askedAt_93 : decode cX8_askedAt 93 = .ok (.goto 19, 3) := by decide +kernel
theorem dX8_askedAt_96 : decode cX8_askedAt 96 = .ok (.iconst 0, 1) := by decide +kernel
theorem dX8_askedAt_97 : decode cX8_askedAt 97 = .ok (.goto 15, 3) := by decide +kernel
theorem dX8_askedAt_100 : decode cX8_askedAt 100 = .ok (.iload 5, 2) := by decide +kernel
theorem dX8_askedAt_102 : decode cX8_askedAt 102 = .ok (.iload 6, 2) := by decide +kernel
theorem dX8_askedAt_104 : decode cX8_askedAt 104 = .ok (.if_icmp .ne 7, 3) := by decide +kernel
theorem dX8_askedAt_107 : decode cX8_askedAt 107 = .ok (.iconst 1, 1) := by decide +kernel
theorem dX8_askedAt_108 : decode cX8_askedAt 108 = .ok (.goto 4, 3) := by decide +kernel
theorem dX8_askedAt_111 : decode cX8_askedAt 111 = .ok (.iconst 0, 1) := by decide +kernel
theorem dX8_askedAt_112 : decode cX8_askedAt 112 = .ok (.istore 7, 2) := by decide +kernel
theorem dX8_askedAt_114 : decode cX8_askedAt 114 = .ok (.iload 7, 2) := by decide +kernel
theorem dX8_askedAt_116 : decode cX8_askedAt 116 = .ok (.ifCond .eq 13, 3) := by decide +kernel
theorem dX8_askedAt_119 : decode cX8_askedAt 119 = .ok (.aload_n 0, 1) := by decide +kernel
theorem dX8_askedAt_120 : decode cX8_askedAt 120 = .ok (.getfield 62, 3) := by decide +kernel
theorem dX8_askedAt_123 : decode cX8_askedAt 123 = .ok (.iload 4, 2) := by decide +kernel
theorem dX8_askedAt_125 : decode cX8_askedAt 125 = .ok (.iaload, 1) := by decide +kernel
theorem dX8_askedAt_126 : decode cX8_askedAt 126 = .ok (.goto 4, 3) := by decide +kernel
theorem dX8_askedAt_129 : decode cX8_askedAt 129 = .ok (.iload_n 3, 1) := by decide +kernel
theorem dX8_askedAt_130 : decode cX8_askedAt 130 = .ok (.istore_n 3, 1) := by decide +kernel
theorem dX8_askedAt_131 : decode cX8_askedAt 131 = .ok (.iinc 4 (-1), 3) := by decide +kernel
theorem dX8_askedAt_134 : decode cX8_askedAt 134 = .ok (.goto (-121), 3) := by decide +kernel
theorem dX8_askedAt_137 : decode cX8_askedAt 137 = .ok (.iload_n 3, 1) := by decide +kernel
theorem dX8_askedAt_138 : decode cX8_askedAt 138 = .ok (.aload_n 0, 1) := by decide +kernel
theorem dX8_askedAt_139 : decode cX8_askedAt 139 = .ok (.getfield 96, 3) := by decide +kernel
theorem dX8_askedAt_142 : decode cX8_askedAt 142 = .ok (.if_icmp .ge 7, 3) := by decide +kernel
theorem dX8_askedAt_145 : decode cX8_askedAt 145 = .ok (.iload_n 3, 1) := by decide +kernel
theorem dX8_askedAt_146 : decode cX8_askedAt 146 = .ok (.goto 9, 3) := by decide +kernel
theorem dX8_askedAt_149 : decode cX8_askedAt 149 = .ok (.aload_n 0, 1) := by decide +kernel
theorem dX8_askedAt_150 : decode cX8_askedAt 150 = .ok (.getfield 96, 3) := by decide +kernel
theorem dX8_askedAt_153 : decode cX8_askedAt 153 = .ok (.iconst 1, 1) := by decide +kernel
theorem dX8_askedAt_154 : decode cX8_askedAt 154 = .ok (.isub, 1) := by decide +kernel
theorem dX8_askedAt_155 : decode cX8_askedAt 155 = .ok (.ireturn, 1) := by decide +kernel
theorem dX8_isReady_0 : decode cX8_isReady 0 = .ok (.aload_n 0, 1) := by decide +kernel
theorem dX8_isReady_1 : decode cX8_isReady 1 = .ok (.getfield 96, 3) := by decide +kernel
theorem dX8_isReady_4 : decode cX8_isReady 4 = .ok (.ifCond .le 14, 3) := by decide +kernel
theorem dX8_isReady_7 : decode cX8_isReady 7 = .ok (.aload_n 0, 1) := by decide +kernel
theorem dX8_isReady_8 : decode cX8_isReady 8 = .ok (.getfield 65, 3) := by decide +kernel
theorem dX8_isReady_11 : decode cX8_isReady 11 = .ok (.ifCond .lt 7, 3) := by decide +kernel
theorem dX8_isReady_14 : decode cX8_isReady 14 = .ok (.iconst 1, 1) := by decide +kernel
theorem dX8_isReady_15 : decode cX8_isReady 15 = .ok (.goto 4, 3) := by decide +kernel
theorem dX8_isReady_18 : decode cX8_isReady 18 = .ok (.iconst 0, 1) := by decide +kernel
theorem dX8_isReady_19 : decode cX8_isReady 19 = .ok (.ireturn, 1) := by decide +kernel
theorem dX8_asks_0 : decode cX8_asks 0 = .ok (.iload_n 1, 1) := by decide +kernel
theorem dX8_asks_1 : decode cX8_asks 1 = .ok (.i2l, 1) := by decide +kernel
theorem dX8_asks_2 : decode cX8_asks 2 = .ok (.lconst 0, 1) := by decide +kernel
theorem dX8_asks_3 : decode cX8_asks 3 = .ok (.ldc2_w 114, 3) := by decide +kernel
theorem dX8_asks_6 : decode cX8_asks 6 = .ok (.invokestatic 83, 3) := by decide +kernel
theorem dX8_asks_9 : decode cX8_asks 9 = .ok (.ifCond .eq 15, 3) := by decide +kernel
theorem dX8_asks_12 : decode cX8_asks 12 = .ok (.iload_n 2, 1) := by decide +kernel
theorem dX8_asks_13 : decode cX8_asks 13 = .ok (.i2l, 1) := by decide +kernel
theorem dX8_asks_14 : decode cX8_asks 14 = .ok (.lconst 0, 1) := by decide +kernel
theorem dX8_asks_15 : decode cX8_asks 15 = .ok (.ldc2_w 87, 3) := by decide +kernel
theorem dX8_asks_18 : decode cX8_asks 18 = .ok (.invokestatic 83, 3) := by decide +kernel
theorem dX8_asks_21 : decode cX8_asks 21 = .ok (.ifCond .ne 6, 3) := by decide +kernel
theorem dX8_asks_24 : decode cX8_asks 24 = .ok (.bipush (-2), 2) := by decide +kernel
theorem dX8_asks_26 : decode cX8_asks 26 = .ok (.ireturn, 1) := by decide +kernel
theorem dX8_asks_27 : decode cX8_asks 27 = .ok (.aload_n 0, 1) := by decide +kernel
theorem dX8_asks_28 : decode cX8_asks 28 = .ok (.invokevirtual 207, 3) := by decide +kernel
theorem dX8_asks_31 : decode cX8_asks 31 = .ok (.ifCond .eq 12, 3) := by decide +kernel
theorem dX8_asks_34 : decode cX8_asks 34 = .ok (.aload_n 0, 1) := by decide +kernel
theorem dX8_asks_35 : decode cX8_asks 35 = .ok (.iload_n 1, 1) := by decide +kernel
theorem dX8_asks_36 : decode cX8_asks 36 = .ok (.iload_n 2, 1) := by decide +kernel
theorem dX8_asks_37 : decode cX8_asks 37 = .ok (.invokevirtual 210, 3) := by decide +kernel
theorem dX8_asks_40 : decode cX8_asks 40 = .ok (.goto 5, 3) := by decide +kernel
theorem dX8_asks_43 : decode cX8_asks 43 = .ok (.bipush (-3), 2) := by decide +kernel
theorem dX8_asks_45 : decode cX8_asks 45 = .ok (.ireturn, 1) := by decide +kernel
theorem dX8_findBoy_0 : decode cX8_findBoy 0 = .ok (.aload_n 0, 1) := by decide +kernel
theorem dX8_findBoy_1 : decode cX8_findBoy 1 = .ok (.invokevirtual 128, 3) := by decide +kernel
theorem dX8_findBoy_4 : decode cX8_findBoy 4 = .ok (.iconst 0, 1) := by decide +kernel
theorem dX8_findBoy_5 : decode cX8_findBoy 5 = .ok (.istore_n 1, 1) := by decide +kernel
theorem dX8_findBoy_6 : decode cX8_findBoy 6 = .ok (.iload_n 1, 1) := by decide +kernel
theorem dX8_findBoy_7 : decode cX8_findBoy 7 = .ok (.bipush 12, 2) := by decide +kernel
theorem dX8_findBoy_9 : decode cX8_findBoy 9 = .ok (.if_icmp .gt 21, 3) := by decide +kernel
theorem dX8_findBoy_12 : decode cX8_findBoy 12 = .ok (.aload_n 0, 1) := by decide +kernel
theorem dX8_findBoy_13 : decode cX8_findBoy 13 = .ok (.getfield 69, 3) := by decide +kernel
theorem dX8_findBoy_16 : decode cX8_findBoy 16 = .ok (.iload_n 1, 1) := by decide +kernel
theorem dX8_findBoy_17 : decode cX8_findBoy 17 = .ok (.aload_n 0, 1) := by decide +kernel
theorem dX8_findBoy_18 : decode cX8_findBoy 18 = .ok (.getfield 28, 3) := by decide +kernel
theorem dX8_findBoy_21 : decode cX8_findBoy 21 = .ok (.iload_n 1, 1) := by decide +kernel
theorem dX8_findBoy_22 : decode cX8_findBoy 22 = .ok (.laload, 1) := by decide +kernel
theorem dX8_findBoy_23 : decode cX8_findBoy 23 = .ok (.lastore, 1) := by decide +kernel
theorem dX8_findBoy_24 : decode cX8_findBoy 24 = .ok (.iinc 1 1, 3) := by decide +kernel
theorem dX8_findBoy_27 : decode cX8_findBoy 27 = .ok (.goto (-21), 3) := by decide +kernel
theorem dX8_findBoy_30 : decode cX8_findBoy 30 = .ok (.aload_n 0, 1) := by decide +kernel
theorem dX8_findBoy_31 : decode cX8_findBoy 31 = .ok (.getfield 120, 3) := by decide +kernel
theorem dX8_findBoy_34 : decode cX8_findBoy 34 = .ok (.lstore_n 1, 1) := by decide +kernel
theorem dX8_findBoy_35 : decode cX8_findBoy 35 = .ok (.aload_n 0, 1) := by decide +kernel
theorem dX8_findBoy_36 : decode cX8_findBoy 36 = .ok (.getfield 78, 3) := by decide +kernel
theorem dX8_findBoy_39 : decode cX8_findBoy 39 = .ok (.iconst 1, 1) := by decide +kernel
theorem dX8_findBoy_40 : decode cX8_findBoy 40 = .ok (.isub, 1) := by decide +kernel
theorem dX8_findBoy_41 : decode cX8_findBoy 41 = .ok (.istore_n 3, 1) := by decide +kernel
theorem dX8_findBoy_42 : decode cX8_findBoy 42 = .ok (.iload_n 3, 1) := by decide +kernel
theorem dX8_findBoy_43 : decode cX8_findBoy 43 = .ok (.ifCond .lt 161, 3) := by decide +kernel
theorem dX8_findBoy_46 : decode cX8_findBoy 46 = .ok (.iconst 0, 1) := by decide +kernel
theorem dX8_findBoy_47 : decode cX8_findBoy 47 = .ok (.istore 4, 2) := by decide +kernel
theorem dX8_findBoy_49 : decode cX8_findBoy 49 = .ok (.iload 4, 2) := by decide +kernel
theorem dX8_findBoy_51 : decode cX8_findBoy 51 = .ok (.aload_n 0, 1) := by decide +kernel
theorem dX8_findBoy_52 : decode cX8_findBoy 52 = .ok (.getfield 96, 3) := by decide +kernel
theorem dX8_findBoy_55 : decode cX8_findBoy 55 = .ok (.if_icmp .ge 108, 3) := by decide +kernel
theorem dX8_findBoy_58 : decode cX8_findBoy 58 = .ok (.aload_n 0, 1) := by decide +kernel
theorem dX8_findBoy_59 : decode cX8_findBoy 59 = .ok (.lload_n 1, 1) := by decide +kernel
theorem dX8_findBoy_60 : decode cX8_findBoy 60 = .ok (.putfield 120, 3) := by decide +kernel
theorem dX8_findBoy_63 : decode cX8_findBoy 63 = .ok (.iconst 0, 1) := by decide +kernel
theorem dX8_findBoy_64 : decode cX8_findBoy 64 = .ok (.istore 5, 2) := by decide +kernel
theorem dX8_findBoy_66 : decode cX8_findBoy 66 = .ok (.iload 5, 2) := by decide +kernel
theorem dX8_findBoy_68 : decode cX8_findBoy 68 = .ok (.bipush 12, 2) := by decide +kernel
theorem dX8_findBoy_70 : decode cX8_findBoy 70 = .ok (.if_icmp .gt 23, 3) := by decide +kernel
theorem dX8_findBoy_73 : decode cX8_findBoy 73 = .ok (.aload_n 0, 1) := by decide +kernel
theorem dX8_findBoy_74 : decode cX8_findBoy 74 = .ok (.getfield 28, 3) := by decide +kernel
theorem dX8_findBoy_77 : decode cX8_findBoy 77 = .ok (.iload 5, 2) := by decide +kernel
theorem dX8_findBoy_79 : decode cX8_findBoy 79 = .ok (.aload_n 0, 1) := by decide +kernel
theorem dX8_findBoy_80 : decode cX8_findBoy 80 = .ok (.getfield 69, 3) := by decide +kernel
theorem dX8_findBoy_83 : decode cX8_findBoy 83 = .ok (.iload 5, 2) := by decide +kernel
theorem dX8_findBoy_85 : decode cX8_findBoy 85 = .ok (.laload, 1) := by decide +kernel
theorem dX8_findBoy_86 : decode cX8_findBoy 86 = .ok (.lastore, 1) := by decide +kernel
theorem dX8_findBoy_87 : decode cX8_findBoy 87 = .ok (.iinc 5 1, 3) := by decide +kernel
theorem dX8_findBoy_90 : decode cX8_findBoy 90 = .ok (.goto (-24), 3) := by decide +kernel
theorem dX8_findBoy_93 : decode cX8_findBoy 93 = .ok (.aload_n 0, 1) := by decide +kernel
theorem dX8_findBoy_94 : decode cX8_findBoy 94 = .ok (.iload_n 3, 1) := by decide +kernel
theorem dX8_findBoy_95 : decode cX8_findBoy 95 = .ok (.aload_n 0, 1) := by decide +kernel
theorem dX8_findBoy_96 : decode cX8_findBoy 96 = .ok (.getfield 7, 3) := by decide +kernel
theorem dX8_findBoy_99 : decode cX8_findBoy 99 = .ok (.iload 4, 2) := by decide +kernel
theorem dX8_findBoy_101 : decode cX8_findBoy 101 = .ok (.iaload, 1) := by decide +kernel
theorem dX8_findBoy_102 : decode cX8_findBoy 102 = .ok (.invokevirtual 135, 3) := by decide +kernel
theorem dX8_findBoy_105 : decode cX8_findBoy 105 = .ok (.iconst 0, 1) := by decide +kernel
theorem dX8_findBoy_106 : decode cX8_findBoy 106 = .ok (.istore 5, 2) := by decide +kernel
theorem dX8_findBoy_108 : decode cX8_findBoy 108 = .ok (.iload 5, 2) := by decide +kernel
theorem dX8_findBoy_110 : decode cX8_findBoy 110 = .ok (.bipush 12, 2) := by decide +kernel
theorem dX8_findBoy_112 : decode cX8_findBoy 112 = .ok (.if_icmp .gt 45, 3) := by decide +kernel
theorem dX8_findBoy_115 : decode cX8_findBoy 115 = .ok (.aload_n 0, 1) := by decide +kernel
theorem dX8_findBoy_116 : decode cX8_findBoy 116 = .ok (.getfield 72, 3) := by decide +kernel
theorem dX8_findBoy_119 : decode cX8_findBoy 119 = .ok (.iload 5, 2) := by decide +kernel
theorem dX8_findBoy_121 : decode cX8_findBoy 121 = .ok (.aload_n 0, 1) := by decide +kernel
theorem dX8_findBoy_122 : decode cX8_findBoy 122 = .ok (.iload_n 3, 1) := by decide +kernel
theorem dX8_findBoy_123 : decode cX8_findBoy 123 = .ok (.iload 5, 2) := by decide +kernel
theorem dX8_findBoy_125 : decode cX8_findBoy 125 = .ok (.invokevirtual 210, 3) := by decide +kernel
theorem dX8_findBoy_128 : decode cX8_findBoy 128 = .ok (.iload 4, 2) := by decide +kernel
theorem dX8_findBoy_130 : decode cX8_findBoy 130 = .ok (.if_icmp .ne 13, 3) := by decide +kernel
theorem dX8_findBoy_133 : decode cX8_findBoy 133 = .ok (.aload_n 0, 1) := by decide +kernel
theorem dX8_findBoy_134 : decode cX8_findBoy 134 = .ok (.getfield 28, 3) := by decide +kernel
theorem dX8_findBoy_137 : decode cX8_findBoy 137 = .ok (.iload 5, 2) := by decide +kernel
theorem dX8_findBoy_139 : decode cX8_findBoy 139 = .ok (.laload, 1) := by decide +kernel
theorem dX8_findBoy_140 : decode cX8_findBoy 140 = .ok (.goto 10, 3) := by decide +kernel
theorem dX8_findBoy_143 : decode cX8_findBoy 143 = .ok (.aload_n 0, 1) := by decide +kernel
theorem dX8_findBoy_144 : decode cX8_findBoy 144 = .ok (.getfield 72, 3) := by decide +kernel
theorem dX8_findBoy_147 : decode cX8_findBoy 147 = .ok (.iload 5, 2) := by decide +kernel
theorem dX8_findBoy_149 : decode cX8_findBoy 149 = .ok (.laload, 1) := by decide +kernel
theorem dX8_findBoy_150 : decode cX8_findBoy 150 = .ok (.lastore, 1) := by decide +kernel
theorem dX8_findBoy_151 : decode cX8_findBoy 151 = .ok (.iinc 5 1, 3) := by decide +kernel
theorem dX8_findBoy_154 : decode cX8_findBoy 154 = .ok (.goto (-46), 3) := by decide +kernel
theorem dX8_findBoy_157 : decode cX8_findBoy 157 = .ok (.iinc 4 1, 3) := by decide +kernel
theorem dX8_findBoy_160 : decode cX8_findBoy 160 = .ok (.goto (-111), 3) := by decide +kernel
theorem dX8_findBoy_163 : decode cX8_findBoy 163 = .ok (.iconst 0, 1) := by decide +kernel
theorem dX8_findBoy_164 : decode cX8_findBoy 164 = .ok (.istore 4, 2) := by decide +kernel
theorem dX8_findBoy_166 : decode cX8_findBoy 166 = .ok (.iload 4, 2) := by decide +kernel
theorem dX8_findBoy_168 : decode cX8_findBoy 168 = .ok (.bipush 12, 2) := by decide +kernel
theorem dX8_findBoy_170 : decode cX8_findBoy 170 = .ok (.if_icmp .gt 23, 3) := by decide +kernel
theorem dX8_findBoy_173 : decode cX8_findBoy 173 = .ok (.aload_n 0, 1) := by decide +kernel
theorem dX8_findBoy_174 : decode cX8_findBoy 174 = .ok (.getfield 69, 3) := by decide +kernel
theorem dX8_findBoy_177 : decode cX8_findBoy 177 = .ok (.iload 4, 2) := by decide +kernel
theorem dX8_findBoy_179 : decode cX8_findBoy 179 = .ok (.aload_n 0, 1) := by decide +kernel
theorem dX8_findBoy_180 : decode cX8_findBoy 180 = .ok (.getfield 72, 3) := by decide +kernel
theorem dX8_findBoy_183 : decode cX8_findBoy 183 = .ok (.iload 4, 2) := by decide +kernel
theorem dX8_findBoy_185 : decode cX8_findBoy 185 = .ok (.laload, 1) := by decide +kernel
theorem dX8_findBoy_186 : decode cX8_findBoy 186 = .ok (.lastore, 1) := by decide +kernel
theorem dX8_findBoy_187 : decode cX8_findBoy 187 = .ok (.iinc 4 1, 3) := by decide +kernel
theorem dX8_findBoy_190 : decode cX8_findBoy 190 = .ok (.goto (-24), 3) := by decide +kernel
theorem dX8_findBoy_193 : decode cX8_findBoy 193 = .ok (.aload_n 0, 1) := by decide +kernel
theorem dX8_findBoy_194 : decode cX8_findBoy 194 = .ok (.getfield 120, 3) := by decide +kernel
theorem dX8_findBoy_197 : decode cX8_findBoy 197 = .ok (.lstore_n 1, 1) := by decide +kernel
theorem dX8_findBoy_198 : decode cX8_findBoy 198 = .ok (.iinc 3 (-1), 3) := by decide +kernel
theorem dX8_findBoy_201 : decode cX8_findBoy 201 = .ok (.goto (-159), 3) := by decide +kernel
theorem dX8_findBoy_204 : decode cX8_findBoy 204 = .ok (.return_, 1) := by decide +kernel
theorem dX8_boy_0 : decode cX8_boy 0 = .ok (.iload_n 1, 1) := by decide +kernel
theorem dX8_boy_1 : decode cX8_boy 1 = .ok (.invokestatic 138, 3) := by decide +kernel
theorem dX8_boy_4 : decode cX8_boy 4 = .ok (.ifCond .ne 7, 3) := by decide +kernel
theorem dX8_boy_7 : decode cX8_boy 7 = .ok (.ldc2_w 141, 3) := by decide +kernel
theorem dX8_boy_10 : decode cX8_boy 10 = .ok (.lreturn, 1) := by decide +kernel
theorem dX8_boy_11 : decode cX8_boy 11 = .ok (.aload_n 0, 1) := by decide +kernel
theorem dX8_boy_12 : decode cX8_boy 12 = .ok (.invokevirtual 207, 3) := by decide +kernel
theorem dX8_boy_15 : decode cX8_boy 15 = .ok (.ifCond .ne 7, 3) := by decide +kernel
theorem dX8_boy_18 : decode cX8_boy 18 = .ok (.ldc2_w 143, 3) := by decide +kernel
theorem dX8_boy_21 : decode cX8_boy 21 = .ok (.lreturn, 1) := by decide +kernel
theorem dX8_boy_22 : decode cX8_boy 22 = .ok (.aload_n 0, 1) := by decide +kernel
theorem dX8_boy_23 : decode cX8_boy 23 = .ok (.invokevirtual 213, 3) := by decide +kernel
theorem dX8_boy_26 : decode cX8_boy 26 = .ok (.aload_n 0, 1) := by decide +kernel
theorem dX8_boy_27 : decode cX8_boy 27 = .ok (.getfield 69, 3) := by decide +kernel
theorem dX8_boy_30 : decode cX8_boy 30 = .ok (.aload_n 0, 1) := by decide +kernel
theorem dX8_boy_31 : decode cX8_boy 31 = .ok (.getfield 75, 3) := by decide +kernel
theorem dX8_boy_34 : decode cX8_boy 34 = .ok (.laload, 1) := by decide +kernel
theorem dX8_boy_35 : decode cX8_boy 35 = .ok (.aload_n 0, 1) := by decide +kernel
theorem dX8_boy_36 : decode cX8_boy 36 = .ok (.getfield 103, 3) := by decide +kernel
theorem dX8_boy_39 : decode cX8_boy 39 = .ok (.aload_n 0, 1) := by decide +kernel
theorem dX8_boy_40 : decode cX8_boy 40 = .ok (.getfield 78, 3) := by decide +kernel
theorem dX8_boy_43 : decode cX8_boy 43 = .ok (.imul, 1) := by decide +kernel
theorem dX8_boy_44 : decode cX8_boy 44 = .ok (.invokestatic 161, 3) := by decide +kernel
theorem dX8_boy_47 : decode cX8_boy 47 = .ok (.iload_n 1, 1) := by decide +kernel
theorem dX8_boy_48 : decode cX8_boy 48 = .ok (.invokestatic 151, 3) := by decide +kernel
theorem dX8_boy_51 : decode cX8_boy 51 = .ok (.lreturn, 1) := by decide +kernel
theorem dX8_worst_0 : decode cX8_worst 0 = .ok (.aload_n 0, 1) := by decide +kernel
theorem dX8_worst_1 : decode cX8_worst 1 = .ok (.invokevirtual 207, 3) := by decide +kernel
theorem dX8_worst_4 : decode cX8_worst 4 = .ok (.ifCond .ne 6, 3) := by decide +kernel
theorem dX8_worst_7 : decode cX8_worst 7 = .ok (.bipush (-3), 2) := by decide +kernel
theorem dX8_worst_9 : decode cX8_worst 9 = .ok (.ireturn, 1) := by decide +kernel
theorem dX8_worst_10 : decode cX8_worst 10 = .ok (.aload_n 0, 1) := by decide +kernel
theorem dX8_worst_11 : decode cX8_worst 11 = .ok (.invokevirtual 158, 3) := by decide +kernel
theorem dX8_worst_14 : decode cX8_worst 14 = .ok (.aload_n 0, 1) := by decide +kernel
theorem dX8_worst_15 : decode cX8_worst 15 = .ok (.invokevirtual 213, 3) := by decide +kernel
theorem dX8_worst_18 : decode cX8_worst 18 = .ok (.iconst 1, 1) := by decide +kernel
theorem dX8_worst_19 : decode cX8_worst 19 = .ok (.istore_n 1, 1) := by decide +kernel
theorem dX8_worst_20 : decode cX8_worst 20 = .ok (.iconst 2, 1) := by decide +kernel
theorem dX8_worst_21 : decode cX8_worst 21 = .ok (.istore_n 2, 1) := by decide +kernel
theorem dX8_worst_22 : decode cX8_worst 22 = .ok (.iload_n 2, 1) := by decide +kernel
theorem dX8_worst_23 : decode cX8_worst 23 = .ok (.bipush 12, 2) := by decide +kernel
theorem dX8_worst_25 : decode cX8_worst 25 = .ok (.if_icmp .gt 45, 3) := by decide +kernel
theorem dX8_worst_28 : decode cX8_worst 28 = .ok (.aload_n 0, 1) := by decide +kernel
theorem dX8_worst_29 : decode cX8_worst 29 = .ok (.getfield 32, 3) := by decide +kernel
theorem dX8_worst_32 : decode cX8_worst 32 = .ok (.iload_n 2, 1) := by decide +kernel
theorem dX8_worst_33 : decode cX8_worst 33 = .ok (.laload, 1) := by decide +kernel
theorem dX8_worst_34 : decode cX8_worst 34 = .ok (.aload_n 0, 1) := by decide +kernel
theorem dX8_worst_35 : decode cX8_worst 35 = .ok (.getfield 69, 3) := by decide +kernel
theorem dX8_worst_38 : decode cX8_worst 38 = .ok (.iload_n 2, 1) := by decide +kernel
theorem dX8_worst_39 : decode cX8_worst 39 = .ok (.laload, 1) := by decide +kernel
theorem dX8_worst_40 : decode cX8_worst 40 = .ok (.lsub, 1) := by decide +kernel
theorem dX8_worst_41 : decode cX8_worst 41 = .ok (.aload_n 0, 1) := by decide +kernel
theorem dX8_worst_42 : decode cX8_worst 42 = .ok (.getfield 32, 3) := by decide +kernel
theorem dX8_worst_45 : decode cX8_worst 45 = .ok (.iload_n 1, 1) := by decide +kernel
theorem dX8_worst_46 : decode cX8_worst 46 = .ok (.laload, 1) := by decide +kernel
theorem dX8_worst_47 : decode cX8_worst 47 = .ok (.aload_n 0, 1) := by decide +kernel
theorem dX8_worst_48 : decode cX8_worst 48 = .ok (.getfield 69, 3) := by decide +kernel
theorem dX8_worst_51 : decode cX8_worst 51 = .ok (.iload_n 1, 1) := by decide +kernel
theorem dX8_worst_52 : decode cX8_worst 52 = .ok (.laload, 1) := by decide +kernel
theorem dX8_worst_53 : decode cX8_worst 53 = .ok (.lsub, 1) := by decide +kernel
theorem dX8_worst_54 : decode cX8_worst 54 = .ok (.lcmp, 1) := by decide +kernel
theorem dX8_worst_55 : decode cX8_worst 55 = .ok (.ifCond .le 7, 3) := by decide +kernel
theorem dX8_worst_58 : decode cX8_worst 58 = .ok (.iload_n 2, 1) := by decide +kernel
theorem dX8_worst_59 : decode cX8_worst 59 = .ok (.goto 4, 3) := by decide +kernel
theorem dX8_worst_62 : decode cX8_worst 62 = .ok (.iload_n 1, 1) := by decide +kernel
theorem dX8_worst_63 : decode cX8_worst 63 = .ok (.istore_n 1, 1) := by decide +kernel
theorem dX8_worst_64 : decode cX8_worst 64 = .ok (.iinc 2 1, 3) := by decide +kernel
theorem dX8_worst_67 : decode cX8_worst 67 = .ok (.goto (-45), 3) := by decide +kernel
theorem dX8_worst_70 : decode cX8_worst 70 = .ok (.iload_n 1, 1) := by decide +kernel
theorem dX8_worst_71 : decode cX8_worst 71 = .ok (.ireturn, 1) := by decide +kernel
theorem dX8_beginPrice_0 : decode cX8_beginPrice 0 = .ok (.aload_n 0, 1) := by decide +kernel
theorem dX8_beginPrice_1 : decode cX8_beginPrice 1 = .ok (.invokevirtual 158, 3) := by decide +kernel
theorem dX8_beginPrice_4 : decode cX8_beginPrice 4 = .ok (.aload_n 0, 1) := by decide +kernel
theorem dX8_beginPrice_5 : decode cX8_beginPrice 5 = .ok (.getfield 35, 3) := by decide +kernel
theorem dX8_beginPrice_8 : decode cX8_beginPrice 8 = .ok (.aload_n 0, 1) := by decide +kernel
theorem dX8_beginPrice_9 : decode cX8_beginPrice 9 = .ok (.getfield 75, 3) := by decide +kernel
theorem dX8_beginPrice_12 : decode cX8_beginPrice 12 = .ok (.iaload, 1) := by decide +kernel
theorem dX8_beginPrice_13 : decode cX8_beginPrice 13 = .ok (.ireturn, 1) := by decide +kernel
theorem dX8_edge_0 : decode cX8_edge 0 = .ok (.aload_n 0, 1) := by decide +kernel
theorem dX8_edge_1 : decode cX8_edge 1 = .ok (.iload_n 1, 1) := by decide +kernel
theorem dX8_edge_2 : decode cX8_edge 2 = .ok (.invokevirtual 106, 3) := by decide +kernel
theorem dX8_edge_5 : decode cX8_edge 5 = .ok (.ifCond .ne 5, 3) := by decide +kernel
theorem dX8_edge_8 : decode cX8_edge 8 = .ok (.iconst (-1), 1) := by decide +kernel
theorem dX8_edge_9 : decode cX8_edge 9 = .ok (.ireturn, 1) := by decide +kernel
theorem dX8_edge_10 : decode cX8_edge 10 = .ok (.aload_n 0, 1) := by decide +kernel
theorem dX8_edge_11 : decode cX8_edge 11 = .ok (.getfield 96, 3) := by decide +kernel
theorem dX8_edge_14 : decode cX8_edge 14 = .ok (.ifCond .eq 10, 3) := by decide +kernel
theorem dX8_edge_17 : decode cX8_edge 17 = .ok (.aload_n 0, 1) := by decide +kernel
theorem dX8_edge_18 : decode cX8_edge 18 = .ok (.getfield 75, 3) := by decide +kernel
theorem dX8_edge_21 : decode cX8_edge 21 = .ok (.ifCond .ne 6, 3) := by decide +kernel
theorem dX8_edge_24 : decode cX8_edge 24 = .ok (.bipush (-3), 2) := by decide +kernel
theorem dX8_edge_26 : decode cX8_edge 26 = .ok (.ireturn, 1) := by decide +kernel
theorem dX8_edge_27 : decode cX8_edge 27 = .ok (.aload_n 0, 1) := by decide +kernel
theorem dX8_edge_28 : decode cX8_edge 28 = .ok (.getfield 13, 3) := by decide +kernel
theorem dX8_edge_31 : decode cX8_edge 31 = .ok (.iload_n 1, 1) := by decide +kernel
theorem dX8_edge_32 : decode cX8_edge 32 = .ok (.iaload, 1) := by decide +kernel
theorem dX8_edge_33 : decode cX8_edge 33 = .ok (.istore_n 2, 1) := by decide +kernel
theorem dX8_edge_34 : decode cX8_edge 34 = .ok (.aload_n 0, 1) := by decide +kernel
theorem dX8_edge_35 : decode cX8_edge 35 = .ok (.invokevirtual 216, 3) := by decide +kernel
theorem dX8_edge_38 : decode cX8_edge 38 = .ok (.istore_n 3, 1) := by decide +kernel
theorem dX8_edge_39 : decode cX8_edge 39 = .ok (.bipush (-6), 2) := by decide +kernel
theorem dX8_edge_41 : decode cX8_edge 41 = .ok (.istore 4, 2) := by decide +kernel
theorem dX8_edge_43 : decode cX8_edge 43 = .ok (.iconst 1, 1) := by decide +kernel
theorem dX8_edge_44 : decode cX8_edge 44 = .ok (.istore 5, 2) := by decide +kernel
theorem dX8_edge_46 : decode cX8_edge 46 = .ok (.iload 5, 2) := by decide +kernel
theorem dX8_edge_48 : decode cX8_edge 48 = .ok (.iconst 4, 1) := by decide +kernel
theorem dX8_edge_49 : decode cX8_edge 49 = .ok (.if_icmp .gt 90, 3) := by decide +kernel
theorem dX8_edge_52 : decode cX8_edge 52 = .ok (.iload 4, 2) := by decide +kernel
theorem dX8_edge_54 : decode cX8_edge 54 = .ok (.ifCond .ge 85, 3) := by decide +kernel
theorem dX8_edge_57 : decode cX8_edge 57 = .ok (.iconst 0, 1) := by decide +kernel
theorem dX8_edge_58 : decode cX8_edge 58 = .ok (.istore 6, 2) := by decide +kernel
theorem dX8_edge_60 : decode cX8_edge 60 = .ok (.iload 6, 2) := by decide +kernel
theorem dX8_edge_62 : decode cX8_edge 62 = .ok (.iconst 2, 1) := by decide +kernel
theorem dX8_edge_63 : decode cX8_edge 63 = .ok (.if_icmp .ge 70, 3) := by decide +kernel
theorem dX8_edge_66 : decode cX8_edge 66 = .ok (.iload 4, 2) := by decide +kernel
theorem dX8_edge_68 : decode cX8_edge 68 = .ok (.ifCond .ge 65, 3) := by decide +kernel
theorem dX8_edge_71 : decode cX8_edge 71 = .ok (.iload 6, 2) := by decide +kernel
theorem dX8_edge_73 : decode cX8_edge 73 = .ok (.ifCond .ne 10, 3) := by decide +kernel
theorem dX8_edge_76 : decode cX8_edge 76 = .ok (.iload_n 2, 1) := by decide +kernel
theorem dX8_edge_77 : decode cX8_edge 77 = .ok (.iload 5, 2) := by decide +kernel
theorem dX8_edge_79 : decode cX8_edge 79 = .ok (.isub, 1) := by decide +kernel
theorem dX8_edge_80 : decode cX8_edge 80 = .ok (.goto 7, 3) := by decide +kernel
theorem dX8_edge_83 : decode cX8_edge 83 = .ok (.iload_n 2, 1) := by decide +kernel
theorem dX8_edge_84 : decode cX8_edge 84 = .ok (.iload 5, 2) := by decide +kernel
theorem dX8_edge_86 : decode cX8_edge 86 = .ok (.iadd, 1) := by decide +kernel
theorem dX8_edge_87 : decode cX8_edge 87 = .ok (.istore 7, 2) := by decide +kernel
theorem dX8_edge_89 : decode cX8_edge 89 = .ok (.iload 7, 2) := by decide +kernel
theorem dX8_edge_91 : decode cX8_edge 91 = .ok (.i2l, 1) := by decide +kernel
theorem dX8_edge_92 : decode cX8_edge 92 = .ok (.lconst 0, 1) := by decide +kernel
theorem dX8_edge_93 : decode cX8_edge 93 = .ok (.ldc2_w 99, 3) := by decide +kernel
theorem dX8_edge_96 : decode cX8_edge 96 = .ok (.invokestatic 83, 3) := by decide +kernel
theorem dX8_edge_99 : decode cX8_edge 99 = .ok (.ifCond .eq 28, 3) := by decide +kernel
theorem dX8_edge_102 : decode cX8_edge 102 = .ok (.aload_n 0, 1) := by decide +kernel
theorem dX8_edge_103 : decode cX8_edge 103 = .ok (.getfield 13, 3) := by decide +kernel
theorem dX8_edge_106 : decode cX8_edge 106 = .ok (.iload_n 1, 1) := by decide +kernel
theorem dX8_edge_107 : decode cX8_edge 107 = .ok (.iload 7, 2) := by decide +kernel
theorem dX8_edge_109 : decode cX8_edge 109 = .ok (.iastore, 1) := by decide +kernel
theorem dX8_edge_110 : decode cX8_edge 110 = .ok (.aload_n 0, 1) := by decide +kernel
theorem dX8_edge_111 : decode cX8_edge 111 = .ok (.invokevirtual 216, 3) := by decide +kernel
theorem dX8_edge_114 : decode cX8_edge 114 = .ok (.iload_n 3, 1) := by decide +kernel
theorem dX8_edge_115 : decode cX8_edge 115 = .ok (.if_icmp .eq 8, 3) := by decide +kernel
theorem dX8_edge_118 : decode cX8_edge 118 = .ok (.iload 7, 2) := by decide +kernel
theorem dX8_edge_120 : decode cX8_edge 120 = .ok (.goto 5, 3) := by decide +kernel
theorem dX8_edge_123 : decode cX8_edge 123 = .ok (.bipush (-6), 2) := by decide +kernel
theorem dX8_edge_125 : decode cX8_edge 125 = .ok (.istore 4, 2) := by decide +kernel
theorem dX8_edge_127 : decode cX8_edge 127 = .ok (.iinc 6 1, 3) := by decide +kernel
theorem dX8_edge_130 : decode cX8_edge 130 = .ok (.goto (-70), 3) := by decide +kernel
theorem dX8_edge_133 : decode cX8_edge 133 = .ok (.iinc 5 1, 3) := by decide +kernel
theorem dX8_edge_136 : decode cX8_edge 136 = .ok (.goto (-90), 3) := by decide +kernel
theorem dX8_edge_139 : decode cX8_edge 139 = .ok (.aload_n 0, 1) := by decide +kernel
theorem dX8_edge_140 : decode cX8_edge 140 = .ok (.getfield 13, 3) := by decide +kernel
theorem dX8_edge_143 : decode cX8_edge 143 = .ok (.iload_n 1, 1) := by decide +kernel
theorem dX8_edge_144 : decode cX8_edge 144 = .ok (.iload_n 2, 1) := by decide +kernel
theorem dX8_edge_145 : decode cX8_edge 145 = .ok (.iastore, 1) := by decide +kernel
theorem dX8_edge_146 : decode cX8_edge 146 = .ok (.iload 4, 2) := by decide +kernel
theorem dX8_edge_148 : decode cX8_edge 148 = .ok (.ireturn, 1) := by decide +kernel
theorem dX8_told_0 : decode cX8_told 0 = .ok (.iload_n 1, 1) := by decide +kernel
theorem dX8_told_1 : decode cX8_told 1 = .ok (.i2l, 1) := by decide +kernel
theorem dX8_told_2 : decode cX8_told 2 = .ok (.ldc2_w 219, 3) := by decide +kernel
theorem dX8_told_5 : decode cX8_told 5 = .ok (.ldc2_w 221, 3) := by decide +kernel
theorem dX8_told_8 : decode cX8_told 8 = .ok (.invokestatic 83, 3) := by decide +kernel
theorem dX8_told_11 : decode cX8_told 11 = .ok (.ifCond .eq 13, 3) := by decide +kernel
theorem dX8_told_14 : decode cX8_told 14 = .ok (.aload_n 0, 1) := by decide +kernel
theorem dX8_told_15 : decode cX8_told 15 = .ok (.getfield 25, 3) := by decide +kernel
theorem dX8_told_18 : decode cX8_told 18 = .ok (.iload_n 1, 1) := by decide +kernel
theorem dX8_told_19 : decode cX8_told 19 = .ok (.bipush 10, 2) := by decide +kernel
theorem dX8_told_21 : decode cX8_told 21 = .ok (.isub, 1) := by decide +kernel
theorem dX8_told_22 : decode cX8_told 22 = .ok (.iaload, 1) := by decide +kernel
theorem dX8_told_23 : decode cX8_told 23 = .ok (.ireturn, 1) := by decide +kernel
theorem dX8_told_24 : decode cX8_told 24 = .ok (.iload_n 1, 1) := by decide +kernel
theorem dX8_told_25 : decode cX8_told 25 = .ok (.i2l, 1) := by decide +kernel
theorem dX8_told_26 : decode cX8_told 26 = .ok (.ldc2_w 223, 3) := by decide +kernel
theorem dX8_told_29 : decode cX8_told 29 = .ok (.ldc2_w 225, 3) := by decide +kernel
theorem dX8_told_32 : decode cX8_told 32 = .ok (.invokestatic 83, 3) := by decide +kernel
theorem dX8_told_35 : decode cX8_told 35 = .ok (.ifCond .eq 29, 3) := by decide +kernel
theorem dX8_told_38 : decode cX8_told 38 = .ok (.iload_n 1, 1) := by decide +kernel
theorem dX8_told_39 : decode cX8_told 39 = .ok (.bipush 20, 2) := by decide +kernel
theorem dX8_told_41 : decode cX8_told 41 = .ok (.isub, 1) := by decide +kernel
theorem dX8_told_42 : decode cX8_told 42 = .ok (.aload_n 0, 1) := by decide +kernel
theorem dX8_told_43 : decode cX8_told 43 = .ok (.getfield 96, 3) := by decide +kernel
theorem dX8_told_46 : decode cX8_told 46 = .ok (.if_icmp .ge 15, 3) := by decide +kernel
theorem dX8_told_49 : decode cX8_told 49 = .ok (.aload_n 0, 1) := by decide +kernel
theorem dX8_told_50 : decode cX8_told 50 = .ok (.getfield 7, 3) := by decide +kernel
theorem dX8_told_53 : decode cX8_told 53 = .ok (.iload_n 1, 1) := by decide +kernel
theorem dX8_told_54 : decode cX8_told 54 = .ok (.bipush 20, 2) := by decide +kernel
theorem dX8_told_56 : decode cX8_told 56 = .ok (.isub, 1) := by decide +kernel
theorem dX8_told_57 : decode cX8_told 57 = .ok (.iaload, 1) := by decide +kernel
theorem dX8_told_58 : decode cX8_told 58 = .ok (.goto 5, 3) := by decide +kernel
theorem dX8_told_61 : decode cX8_told 61 = .ok (.bipush (-6), 2) := by decide +kernel
theorem dX8_told_63 : decode cX8_told 63 = .ok (.ireturn, 1) := by decide +kernel
theorem dX8_told_64 : decode cX8_told 64 = .ok (.iload_n 1, 1) := by decide +kernel
theorem dX8_told_65 : decode cX8_told 65 = .ok (.i2l, 1) := by decide +kernel
theorem dX8_told_66 : decode cX8_told 66 = .ok (.ldc2_w 101, 3) := by decide +kernel
theorem dX8_told_69 : decode cX8_told 69 = .ok (.ldc2_w 227, 3) := by decide +kernel
theorem dX8_told_72 : decode cX8_told 72 = .ok (.invokestatic 83, 3) := by decide +kernel
theorem dX8_told_75 : decode cX8_told 75 = .ok (.ifCond .eq 41, 3) := by decide +kernel
theorem dX8_told_78 : decode cX8_told 78 = .ok (.iload_n 1, 1) := by decide +kernel
theorem dX8_told_79 : decode cX8_told 79 = .ok (.bipush 30, 2) := by decide +kernel
theorem dX8_told_81 : decode cX8_told 81 = .ok (.isub, 1) := by decide +kernel
theorem dX8_told_82 : decode cX8_told 82 = .ok (.aload_n 0, 1) := by decide +kernel
theorem dX8_told_83 : decode cX8_told 83 = .ok (.getfield 103, 3) := by decide +kernel
theorem dX8_told_86 : decode cX8_told 86 = .ok (.if_icmp .ge 27, 3) := by decide +kernel
theorem dX8_told_89 : decode cX8_told 89 = .ok (.aload_n 0, 1) := by decide +kernel
theorem dX8_told_90 : decode cX8_told 90 = .ok (.getfield 22, 3) := by decide +kernel
theorem dX8_told_93 : decode cX8_told 93 = .ok (.iload_n 1, 1) := by decide +kernel
theorem dX8_told_94 : decode cX8_told 94 = .ok (.bipush 30, 2) := by decide +kernel
theorem dX8_told_96 : decode cX8_told 96 = .ok (.isub, 1) := by decide +kernel
theorem dX8_told_97 : decode cX8_told 97 = .ok (.iaload, 1) := by decide +kernel
theorem dX8_told_98 : decode cX8_told 98 = .ok (.ifCond .lt 15, 3) := by decide +kernel
theorem dX8_told_101 : decode cX8_told 101 = .ok (.aload_n 0, 1) := by decide +kernel
theorem dX8_told_102 : decode cX8_told 102 = .ok (.getfield 22, 3) := by decide +kernel
theorem dX8_told_105 : decode cX8_told 105 = .ok (.iload_n 1, 1) := by decide +kernel
theorem dX8_told_106 : decode cX8_told 106 = .ok (.bipush 30, 2) := by decide +kernel
theorem dX8_told_108 : decode cX8_told 108 = .ok (.isub, 1) := by decide +kernel
theorem dX8_told_109 : decode cX8_told 109 = .ok (.iaload, 1) := by decide +kernel
theorem dX8_told_110 : decode cX8_told 110 = .ok (.goto 5, 3) := by decide +kernel
theorem dX8_told_113 : decode cX8_told 113 = .ok (.bipush (-6), 2) := by decide +kernel
theorem dX8_told_115 : decode cX8_told 115 = .ok (.ireturn, 1) := by decide +kernel
theorem dX8_told_116 : decode cX8_told 116 = .ok (.iload_n 1, 1) := by decide +kernel
theorem dX8_told_117 : decode cX8_told 117 = .ok (.tableswitch 69 0 5 #[39, 44, 49, 54, 59, 64], 39) := by decide +kernel
theorem dX8_told_156 : decode cX8_told 156 = .ok (.aload_n 0, 1) := by decide +kernel
theorem dX8_told_157 : decode cX8_told 157 = .ok (.getfield 75, 3) := by decide +kernel
theorem dX8_told_160 : decode cX8_told 160 = .ok (.ireturn, 1) := by decide +kernel
theorem dX8_told_161 : decode cX8_told 161 = .ok (.aload_n 0, 1) := by decide +kernel
theorem dX8_told_162 : decode cX8_told 162 = .ok (.getfield 78, 3) := by decide +kernel
theorem dX8_told_165 : decode cX8_told 165 = .ok (.ireturn, 1) := by decide +kernel
theorem dX8_told_166 : decode cX8_told 166 = .ok (.aload_n 0, 1) := by decide +kernel
theorem dX8_told_167 : decode cX8_told 167 = .ok (.getfield 93, 3) := by decide +kernel
theorem dX8_told_170 : decode cX8_told 170 = .ok (.ireturn, 1) := by decide +kernel
theorem dX8_told_171 : decode cX8_told 171 = .ok (.aload_n 0, 1) := by decide +kernel
theorem dX8_told_172 : decode cX8_told 172 = .ok (.getfield 96, 3) := by decide +kernel
theorem dX8_told_175 : decode cX8_told 175 = .ok (.ireturn, 1) := by decide +kernel
theorem dX8_told_176 : decode cX8_told 176 = .ok (.aload_n 0, 1) := by decide +kernel
theorem dX8_told_177 : decode cX8_told 177 = .ok (.getfield 103, 3) := by decide +kernel
theorem dX8_told_180 : decode cX8_told 180 = .ok (.ireturn, 1) := by decide +kernel
theorem dX8_told_181 : decode cX8_told 181 = .ok (.aload_n 0, 1) := by decide +kernel
theorem dX8_told_182 : decode cX8_told 182 = .ok (.getfield 185, 3) := by decide +kernel
theorem dX8_told_185 : decode cX8_told 185 = .ok (.ireturn, 1) := by decide +kernel
theorem dX8_told_186 : decode cX8_told 186 = .ok (.bipush (-2), 2) := by decide +kernel
theorem dX8_told_188 : decode cX8_told 188 = .ok (.ireturn, 1) := by decide +kernel
end
section
theorem dL_law_0 : decode cL_law 0 = .ok (.new 7, 3) := by decide +kernel
theorem dL_law_3 : decode cL_law 3 = .ok (.dup, 1) := by decide +kernel
theorem dL_law_4 : decode cL_law 4 = .ok (.invokespecial 9, 3) := by decide +kernel
theorem dL_law_7 : decode cL_law 7 = .ok (.astore_n 1, 1) := by decide +kernel
theorem dL_law_8 : decode cL_law 8 = .ok (.new 10, 3) := by decide +kernel
theorem dL_law_11 : decode cL_law 11 = .ok (.dup, 1) := by decide +kernel
theorem dL_law_12 : decode cL_law 12 = .ok (.invokespecial 12, 3) := by decide +kernel
theorem dL_law_15 : decode cL_law 15 = .ok (.astore_n 2, 1) := by decide +kernel
theorem dL_law_16 : decode cL_law 16 = .ok (.iconst 0, 1) := by decide +kernel
theorem dL_law_17 : decode cL_law 17 = .ok (.istore_n 3, 1) := by decide +kernel
theorem dL_law_18 : decode cL_law 18 = .ok (.iload_n 3, 1) := by decide +kernel
theorem dL_law_19 : decode cL_law 19 = .ok (.aload_n 0, 1) := by decide +kernel
theorem dL_law_20 : decode cL_law 20 = .ok (.arraylength, 1) := by decide +kernel
theorem dL_law_21 : decode cL_law 21 = .ok (.iconst 4, 1) := by decide +kernel
theorem dL_law_22 : decode cL_law 22 = .ok (.isub, 1) := by decide +kernel
theorem dL_law_23 : decode cL_law 23 = .ok (.if_icmp .gt 811, 3) := by decide +kernel
theorem dL_law_26 : decode cL_law 26 = .ok (.aload_n 0, 1) := by decide +kernel
theorem dL_law_27 : decode cL_law 27 = .ok (.iload_n 3, 1) := by decide +kernel
theorem dL_law_28 : decode cL_law 28 = .ok (.iaload, 1) := by decide +kernel
theorem dL_law_29 : decode cL_law 29 = .ok (.bipush 31, 2) := by decide +kernel
theorem dL_law_31 : decode cL_law 31 = .ok (.iand, 1) := by decide +kernel
theorem dL_law_32 : decode cL_law 32 = .ok (.tableswitch 796 0 24 #[116, 149, 172, 215, 258, 291, 324, 348, 382, 415, 459, 482, 515, 549, 562, 595, 618, 641, 654, 667, 680, 713, 737, 750, 773], 116) := by decide +kernel
theorem dL_law_148 : decode cL_law 148 = .ok (.aload_n 1, 1) := by decide +kernel
theorem dL_law_149 : decode cL_law 149 = .ok (.aload_n 0, 1) := by decide +kernel
theorem dL_law_150 : decode cL_law 150 = .ok (.iload_n 3, 1) := by decide +kernel
theorem dL_law_151 : decode cL_law 151 = .ok (.iconst 1, 1) := by decide +kernel
theorem dL_law_152 : decode cL_law 152 = .ok (.iadd, 1) := by decide +kernel
theorem dL_law_153 : decode cL_law 153 = .ok (.iaload, 1) := by decide +kernel
theorem dL_law_154 : decode cL_law 154 = .ok (.aload_n 0, 1) := by decide +kernel
theorem dL_law_155 : decode cL_law 155 = .ok (.iload_n 3, 1) := by decide +kernel
theorem dL_law_156 : decode cL_law 156 = .ok (.iconst 2, 1) := by decide +kernel
theorem dL_law_157 : decode cL_law 157 = .ok (.iadd, 1) := by decide +kernel
theorem dL_law_158 : decode cL_law 158 = .ok (.iaload, 1) := by decide +kernel
theorem dL_law_159 : decode cL_law 159 = .ok (.invokevirtual 13, 3) := by decide +kernel
theorem dL_law_162 : decode cL_law 162 = .ok (.aload_n 2, 1) := by decide +kernel
theorem dL_law_163 : decode cL_law 163 = .ok (.aload_n 0, 1) := by decide +kernel
theorem dL_law_164 : decode cL_law 164 = .ok (.iload_n 3, 1) := by decide +kernel
theorem dL_law_165 : decode cL_law 165 = .ok (.iconst 1, 1) := by decide +kernel
theorem dL_law_166 : decode cL_law 166 = .ok (.iadd, 1) := by decide +kernel
theorem dL_law_167 : decode cL_law 167 = .ok (.iaload, 1) := by decide +kernel
theorem dL_law_168 : decode cL_law 168 = .ok (.aload_n 0, 1) := by decide +kernel
theorem dL_law_169 : decode cL_law 169 = .ok (.iload_n 3, 1) := by decide +kernel
theorem dL_law_170 : decode cL_law 170 = .ok (.iconst 2, 1) := by decide +kernel
theorem dL_law_171 : decode cL_law 171 = .ok (.iadd, 1) := by decide +kernel
theorem dL_law_172 : decode cL_law 172 = .ok (.iaload, 1) := by decide +kernel
theorem dL_law_173 : decode cL_law 173 = .ok (.invokevirtual 17, 3) := by decide +kernel
theorem dL_law_176 : decode cL_law 176 = .ok (.if_icmp .eq 652, 3) := by decide +kernel
theorem dL_law_179 : decode cL_law 179 = .ok (.iconst 0, 1) := by decide +kernel
theorem dL_law_180 : decode cL_law 180 = .ok (.ireturn, 1) := by decide +kernel
theorem dL_law_181 : decode cL_law 181 = .ok (.aload_n 1, 1) := by decide +kernel
theorem dL_law_182 : decode cL_law 182 = .ok (.aload_n 0, 1) := by decide +kernel
theorem dL_law_183 : decode cL_law 183 = .ok (.iload_n 3, 1) := by decide +kernel
theorem dL_law_184 : decode cL_law 184 = .ok (.iconst 1, 1) := by decide +kernel
theorem dL_law_185 : decode cL_law 185 = .ok (.iadd, 1) := by decide +kernel
theorem dL_law_186 : decode cL_law 186 = .ok (.iaload, 1) := by decide +kernel
theorem dL_law_187 : decode cL_law 187 = .ok (.invokevirtual 18, 3) := by decide +kernel
theorem dL_law_190 : decode cL_law 190 = .ok (.aload_n 2, 1) := by decide +kernel
theorem dL_law_191 : decode cL_law 191 = .ok (.aload_n 0, 1) := by decide +kernel
theorem dL_law_192 : decode cL_law 192 = .ok (.iload_n 3, 1) := by decide +kernel
theorem dL_law_193 : decode cL_law 193 = .ok (.iconst 1, 1) := by decide +kernel
theorem dL_law_194 : decode cL_law 194 = .ok (.iadd, 1) := by decide +kernel
theorem dL_law_195 : decode cL_law 195 = .ok (.iaload, 1) := by decide +kernel
theorem dL_law_196 : decode cL_law 196 = .ok (.invokevirtual 22, 3) := by decide +kernel
theorem dL_law_199 : decode cL_law 199 = .ok (.if_icmp .eq 629, 3) := by decide +kernel
theorem dL_law_202 : decode cL_law 202 = .ok (.iconst 0, 1) := by decide +kernel
theorem dL_law_203 : decode cL_law 203 = .ok (.ireturn, 1) := by decide +kernel
theorem dL_law_204 : decode cL_law 204 = .ok (.aload_n 1, 1) := by decide +kernel
theorem dL_law_205 : decode cL_law 205 = .ok (.aload_n 0, 1) := by decide +kernel
theorem dL_law_206 : decode cL_law 206 = .ok (.iload_n 3, 1) := by decide +kernel
theorem dL_law_207 : decode cL_law 207 = .ok (.iconst 1, 1) := by decide +kernel
theorem dL_law_208 : decode cL_law 208 = .ok (.iadd, 1) := by decide +kernel
theorem dL_law_209 : decode cL_law 209 = .ok (.iaload, 1) := by decide +kernel
theorem dL_law_210 : decode cL_law 210 = .ok (.aload_n 0, 1) := by decide +kernel
theorem dL_law_211 : decode cL_law 211 = .ok (.iload_n 3, 1) := by decide +kernel
theorem dL_law_212 : decode cL_law 212 = .ok (.iconst 2, 1) := by decide +kernel
theorem dL_law_213 : decode cL_law 213 = .ok (.iadd, 1) := by decide +kernel
theorem dL_law_214 : decode cL_law 214 = .ok (.iaload, 1) := by decide +kernel
theorem dL_law_215 : decode cL_law 215 = .ok (.aload_n 0, 1) := by decide +kernel
theorem dL_law_216 : decode cL_law 216 = .ok (.iload_n 3, 1) := by decide +kernel
theorem dL_law_217 : decode cL_law 217 = .ok (.iconst 3, 1) := by decide +kernel
theorem dL_law_218 : decode cL_law 218 = .ok (.iadd, 1) := by decide +kernel
theorem dL_law_219 : decode cL_law 219 = .ok (.iaload, 1) := by decide +kernel
theorem dL_law_220 : decode cL_law 220 = .ok (.invokevirtual 23, 3) := by decide +kernel
theorem dL_law_223 : decode cL_law 223 = .ok (.aload_n 2, 1) := by decide +kernel
theorem dL_law_224 : decode cL_law 224 = .ok (.aload_n 0, 1) := by decide +kernel
theorem dL_law_225 : decode cL_law 225 = .ok (.iload_n 3, 1) := by decide +kernel
theorem dL_law_226 : decode cL_law 226 = .ok (.iconst 1, 1) := by decide +kernel
theorem dL_law_227 : decode cL_law 227 = .ok (.iadd, 1) := by decide +kernel
theorem dL_law_228 : decode cL_law 228 = .ok (.iaload, 1) := by decide +kernel
theorem dL_law_229 : decode cL_law 229 = .ok (.aload_n 0, 1) := by decide +kernel
theorem dL_law_230 : decode cL_law 230 = .ok (.iload_n 3, 1) := by decide +kernel
theorem dL_law_231 : decode cL_law 231 = .ok (.iconst 2, 1) := by decide +kernel
theorem dL_law_232 : decode cL_law 232 = .ok (.iadd, 1) := by decide +kernel
theorem dL_law_233 : decode cL_law 233 = .ok (.iaload, 1) := by decide +kernel
theorem dL_law_234 : decode cL_law 234 = .ok (.aload_n 0, 1) := by decide +kernel
theorem dL_law_235 : decode cL_law 235 = .ok (.iload_n 3, 1) := by decide +kernel
theorem dL_law_236 : decode cL_law 236 = .ok (.iconst 3, 1) := by decide +kernel
theorem dL_law_237 : decode cL_law 237 = .ok (.iadd, 1) := by decide +kernel
theorem dL_law_238 : decode cL_law 238 = .ok (.iaload, 1) := by decide +kernel
theorem dL_law_239 : decode cL_law 239 = .ok (.invokevirtual 27, 3) := by decide +kernel
theorem dL_law_242 : decode cL_law 242 = .ok (.if_icmp .eq 586, 3) := by decide +kernel
theorem dL_law_245 : decode cL_law 245 = .ok (.iconst 0, 1) := by decide +kernel
theorem dL_law_246 : decode cL_law 246 = .ok (.ireturn, 1) := by decide +kernel
theorem dL_law_247 : decode cL_law 247 = .ok (.aload_n 1, 1) := by decide +kernel
theorem dL_law_248 : decode cL_law 248 = .ok (.aload_n 0, 1) := by decide +kernel
theorem dL_law_249 : decode cL_law 249 = .ok (.iload_n 3, 1) := by decide +kernel
theorem dL_law_250 : decode cL_law 250 = .ok (.iconst 1, 1) := by decide +kernel
theorem dL_law_251 : decode cL_law 251 = .ok (.iadd, 1) := by decide +kernel
theorem dL_law_252 : decode cL_law 252 = .ok (.iaload, 1) := by decide +kernel
theorem dL_law_253 : decode cL_law 253 = .ok (.aload_n 0, 1) := by decide +kernel
theorem dL_law_254 : decode cL_law 254 = .ok (.iload_n 3, 1) := by decide +kernel
theorem dL_law_255 : decode cL_law 255 = .ok (.iconst 2, 1) := by decide +kernel
theorem dL_law_256 : decode cL_law 256 = .ok (.iadd, 1) := by decide +kernel
theorem dL_law_257 : decode cL_law 257 = .ok (.iaload, 1) := by decide +kernel
theorem dL_law_258 : decode cL_law 258 = .ok (.aload_n 0, 1) := by decide +kernel
theorem dL_law_259 : decode cL_law 259 = .ok (.iload_n 3, 1) := by decide +kernel
theorem dL_law_260 : decode cL_law 260 = .ok (.iconst 3, 1) := by decide +kernel
theorem dL_law_261 : decode cL_law 261 = .ok (.iadd, 1) := by decide +kernel
theorem dL_law_262 : decode cL_law 262 = .ok (.iaload, 1) := by decide +kernel
theorem dL_law_263 : decode cL_law 263 = .ok (.invokevirtual 28, 3) := by decide +kernel
theorem dL_law_266 : decode cL_law 266 = .ok (.aload_n 2, 1) := by decide +kernel
theorem dL_law_267 : decode cL_law 267 = .ok (.aload_n 0, 1) := by decide +kernel
theorem dL_law_268 : decode cL_law 268 = .ok (.iload_n 3, 1) := by decide +kernel
theorem dL_law_269 : decode cL_law 269 = .ok (.iconst 1, 1) := by decide +kernel
theorem dL_law_270 : decode cL_law 270 = .ok (.iadd, 1) := by decide +kernel
theorem dL_law_271 : decode cL_law 271 = .ok (.iaload, 1) := by decide +kernel
theorem dL_law_272 : decode cL_law 272 = .ok (.aload_n 0, 1) := by decide +kernel
theorem dL_law_273 : decode cL_law 273 = .ok (.iload_n 3, 1) := by decide +kernel
theorem dL_law_274 : decode cL_law 274 = .ok (.iconst 2, 1) := by decide +kernel
theorem dL_law_275 : decode cL_law 275 = .ok (.iadd, 1) := by decide +kernel
theorem dL_law_276 : decode cL_law 276 = .ok (.iaload, 1) := by decide +kernel
theorem dL_law_277 : decode cL_law 277 = .ok (.aload_n 0, 1) := by decide +kernel
theorem dL_law_278 : decode cL_law 278 = .ok (.iload_n 3, 1) := by decide +kernel
theorem dL_law_279 : decode cL_law 279 = .ok (.iconst 3, 1) := by decide +kernel
theorem dL_law_280 : decode cL_law 280 = .ok (.iadd, 1) := by decide +kernel
theorem dL_law_281 : decode cL_law 281 = .ok (.iaload, 1) := by decide +kernel
theorem dL_law_282 : decode cL_law 282 = .ok (.invokevirtual 31, 3) := by decide +kernel
theorem dL_law_285 : decode cL_law 285 = .ok (.if_icmp .eq 543, 3) := by decide +kernel
theorem dL_law_288 : decode cL_law 288 = .ok (.iconst 0, 1) := by decide +kernel
theorem dL_law_289 : decode cL_law 289 = .ok (.ireturn, 1) := by decide +kernel
theorem dL_law_290 : decode cL_law 290 = .ok (.aload_n 1, 1) := by decide +kernel
theorem dL_law_291 : decode cL_law 291 = .ok (.aload_n 0, 1) := by decide +kernel
theorem dL_law_292 : decode cL_law 292 = .ok (.iload_n 3, 1) := by decide +kernel
theorem dL_law_293 : decode cL_law 293 = .ok (.iconst 1, 1) := by decide +kernel
theorem dL_law_294 : decode cL_law 294 = .ok (.iadd, 1) := by decide +kernel
theorem dL_law_295 : decode cL_law 295 = .ok (.iaload, 1) := by decide +kernel
theorem dL_law_296 : decode cL_law 296 = .ok (.aload_n 0, 1) := by decide +kernel
theorem dL_law_297 : decode cL_law 297 = .ok (.iload_n 3, 1) := by decide +kernel
theorem dL_law_298 : decode cL_law 298 = .ok (.iconst 2, 1) := by decide +kernel
theorem dL_law_299 : decode cL_law 299 = .ok (.iadd, 1) := by decide +kernel
theorem dL_law_300 : decode cL_law 300 = .ok (.iaload, 1) := by decide +kernel
theorem dL_law_301 : decode cL_law 301 = .ok (.invokevirtual 32, 3) := by decide +kernel
theorem dL_law_304 : decode cL_law 304 = .ok (.aload_n 2, 1) := by decide +kernel
theorem dL_law_305 : decode cL_law 305 = .ok (.aload_n 0, 1) := by decide +kernel
theorem dL_law_306 : decode cL_law 306 = .ok (.iload_n 3, 1) := by decide +kernel
theorem dL_law_307 : decode cL_law 307 = .ok (.iconst 1, 1) := by decide +kernel
theorem dL_law_308 : decode cL_law 308 = .ok (.iadd, 1) := by decide +kernel
theorem dL_law_309 : decode cL_law 309 = .ok (.iaload, 1) := by decide +kernel
theorem dL_law_310 : decode cL_law 310 = .ok (.aload_n 0, 1) := by decide +kernel
theorem dL_law_311 : decode cL_law 311 = .ok (.iload_n 3, 1) := by decide +kernel
theorem dL_law_312 : decode cL_law 312 = .ok (.iconst 2, 1) := by decide +kernel
theorem dL_law_313 : decode cL_law 313 = .ok (.iadd, 1) := by decide +kernel
theorem dL_law_314 : decode cL_law 314 = .ok (.iaload, 1) := by decide +kernel
theorem dL_law_315 : decode cL_law 315 = .ok (.invokevirtual 35, 3) := by decide +kernel
theorem dL_law_318 : decode cL_law 318 = .ok (.if_icmp .eq 510, 3) := by decide +kernel
theorem dL_law_321 : decode cL_law 321 = .ok (.iconst 0, 1) := by decide +kernel
theorem dL_law_322 : decode cL_law 322 = .ok (.ireturn, 1) := by decide +kernel
theorem dL_law_323 : decode cL_law 323 = .ok (.aload_n 1, 1) := by decide +kernel
theorem dL_law_324 : decode cL_law 324 = .ok (.aload_n 0, 1) := by decide +kernel
theorem dL_law_325 : decode cL_law 325 = .ok (.iload_n 3, 1) := by decide +kernel
theorem dL_law_326 : decode cL_law 326 = .ok (.iconst 1, 1) := by decide +kernel
theorem dL_law_327 : decode cL_law 327 = .ok (.iadd, 1) := by decide +kernel
theorem dL_law_328 : decode cL_law 328 = .ok (.iaload, 1) := by decide +kernel
theorem dL_law_329 : decode cL_law 329 = .ok (.aload_n 0, 1) := by decide +kernel
theorem dL_law_330 : decode cL_law 330 = .ok (.iload_n 3, 1) := by decide +kernel
theorem dL_law_331 : decode cL_law 331 = .ok (.iconst 2, 1) := by decide +kernel
theorem dL_law_332 : decode cL_law 332 = .ok (.iadd, 1) := by decide +kernel
theorem dL_law_333 : decode cL_law 333 = .ok (.iaload, 1) := by decide +kernel
theorem dL_law_334 : decode cL_law 334 = .ok (.invokevirtual 36, 3) := by decide +kernel
theorem dL_law_337 : decode cL_law 337 = .ok (.aload_n 2, 1) := by decide +kernel
theorem dL_law_338 : decode cL_law 338 = .ok (.aload_n 0, 1) := by decide +kernel
theorem dL_law_339 : decode cL_law 339 = .ok (.iload_n 3, 1) := by decide +kernel
theorem dL_law_340 : decode cL_law 340 = .ok (.iconst 1, 1) := by decide +kernel
theorem dL_law_341 : decode cL_law 341 = .ok (.iadd, 1) := by decide +kernel
theorem dL_law_342 : decode cL_law 342 = .ok (.iaload, 1) := by decide +kernel
theorem dL_law_343 : decode cL_law 343 = .ok (.aload_n 0, 1) := by decide +kernel
theorem dL_law_344 : decode cL_law 344 = .ok (.iload_n 3, 1) := by decide +kernel
theorem dL_law_345 : decode cL_law 345 = .ok (.iconst 2, 1) := by decide +kernel
theorem dL_law_346 : decode cL_law 346 = .ok (.iadd, 1) := by decide +kernel
theorem dL_law_347 : decode cL_law 347 = .ok (.iaload, 1) := by decide +kernel
theorem dL_law_348 : decode cL_law 348 = .ok (.invokevirtual 39, 3) := by decide +kernel
theorem dL_law_351 : decode cL_law 351 = .ok (.if_icmp .eq 477, 3) := by decide +kernel
theorem dL_law_354 : decode cL_law 354 = .ok (.iconst 0, 1) := by decide +kernel
theorem dL_law_355 : decode cL_law 355 = .ok (.ireturn, 1) := by decide +kernel
theorem dL_law_356 : decode cL_law 356 = .ok (.aload_n 1, 1) := by decide +kernel
theorem dL_law_357 : decode cL_law 357 = .ok (.aload_n 0, 1) := by decide +kernel
theorem dL_law_358 : decode cL_law 358 = .ok (.iload_n 3, 1) := by decide +kernel
theorem dL_law_359 : decode cL_law 359 = .ok (.iconst 1, 1) := by decide +kernel
theorem dL_law_360 : decode cL_law 360 = .ok (.iadd, 1) := by decide +kernel
theorem dL_law_361 : decode cL_law 361 = .ok (.iaload, 1) := by decide +kernel
theorem dL_law_362 : decode cL_law 362 = .ok (.invokevirtual 40, 3) := by decide +kernel
theorem dL_law_365 : decode cL_law 365 = .ok (.aload_n 2, 1) := by decide +kernel
theorem dL_law_366 : decode cL_law 366 = .ok (.aload_n 0, 1) := by decide +kernel
theorem dL_law_367 : decode cL_law 367 = .ok (.iload_n 3, 1) := by decide +kernel
theorem dL_law_368 : decode cL_law 368 = .ok (.iconst 1, 1) := by decide +kernel
theorem dL_law_369 : decode cL_law 369 = .ok (.iadd, 1) := by decide +kernel
theorem dL_law_370 : decode cL_law 370 = .ok (.iaload, 1) := by decide +kernel
theorem dL_law_371 : decode cL_law 371 = .ok (.invokevirtual 44, 3) := by decide +kernel
theorem dL_law_374 : decode cL_law 374 = .ok (.lcmp, 1) := by decide +kernel
theorem dL_law_375 : decode cL_law 375 = .ok (.ifCond .eq 453, 3) := by decide +kernel
theorem dL_law_378 : decode cL_law 378 = .ok (.iconst 0, 1) := by decide +kernel
theorem dL_law_379 : decode cL_law 379 = .ok (.ireturn, 1) := by decide +kernel
theorem dL_law_380 : decode cL_law 380 = .ok (.aload_n 1, 1) := by decide +kernel
theorem dL_law_381 : decode cL_law 381 = .ok (.aload_n 0, 1) := by decide +kernel
theorem dL_law_382 : decode cL_law 382 = .ok (.iload_n 3, 1) := by decide +kernel
theorem dL_law_383 : decode cL_law 383 = .ok (.iconst 1, 1) := by decide +kernel
theorem dL_law_384 : decode cL_law 384 = .ok (.iadd, 1) := by decide +kernel
theorem dL_law_385 : decode cL_law 385 = .ok (.iaload, 1) := by decide +kernel
theorem dL_law_386 : decode cL_law 386 = .ok (.aload_n 0, 1) := by decide +kernel
theorem dL_law_387 : decode cL_law 387 = .ok (.iload_n 3, 1) := by decide +kernel
theorem dL_law_388 : decode cL_law 388 = .ok (.iconst 2, 1) := by decide +kernel
theorem dL_law_389 : decode cL_law 389 = .ok (.iadd, 1) := by decide +kernel
theorem dL_law_390 : decode cL_law 390 = .ok (.iaload, 1) := by decide +kernel
theorem dL_law_391 : decode cL_law 391 = .ok (.invokevirtual 45, 3) := by decide +kernel
theorem dL_law_394 : decode cL_law 394 = .ok (.aload_n 2, 1) := by decide +kernel
theorem dL_law_395 : decode cL_law 395 = .ok (.aload_n 0, 1) := by decide +kernel
theorem dL_law_396 : decode cL_law 396 = .ok (.iload_n 3, 1) := by decide +kernel
theorem dL_law_397 : decode cL_law 397 = .ok (.iconst 1, 1) := by decide +kernel
theorem dL_law_398 : decode cL_law 398 = .ok (.iadd, 1) := by decide +kernel
theorem dL_law_399 : decode cL_law 399 = .ok (.iaload, 1) := by decide +kernel
theorem dL_law_400 : decode cL_law 400 = .ok (.aload_n 0, 1) := by decide +kernel
theorem dL_law_401 : decode cL_law 401 = .ok (.iload_n 3, 1) := by decide +kernel
theorem dL_law_402 : decode cL_law 402 = .ok (.iconst 2, 1) := by decide +kernel
theorem dL_law_403 : decode cL_law 403 = .ok (.iadd, 1) := by decide +kernel
theorem dL_law_404 : decode cL_law 404 = .ok (.iaload, 1) := by decide +kernel
theorem dL_law_405 : decode cL_law 405 = .ok (.invokevirtual 49, 3) := by decide +kernel
theorem dL_law_408 : decode cL_law 408 = .ok (.lcmp, 1) := by decide +kernel
theorem dL_law_409 : decode cL_law 409 = .ok (.ifCond .eq 419, 3) := by decide +kernel
theorem dL_law_412 : decode cL_law 412 = .ok (.iconst 0, 1) := by decide +kernel
theorem dL_law_413 : decode cL_law 413 = .ok (.ireturn, 1) := by decide +kernel
theorem dL_law_414 : decode cL_law 414 = .ok (.aload_n 1, 1) := by decide +kernel
theorem dL_law_415 : decode cL_law 415 = .ok (.aload_n 0, 1) := by decide +kernel
theorem dL_law_416 : decode cL_law 416 = .ok (.iload_n 3, 1) := by decide +kernel
theorem dL_law_417 : decode cL_law 417 = .ok (.iconst 1, 1) := by decide +kernel
theorem dL_law_418 : decode cL_law 418 = .ok (.iadd, 1) := by decide +kernel
theorem dL_law_419 : decode cL_law 419 = .ok (.iaload, 1) := by decide +kernel
theorem dL_law_420 : decode cL_law 420 = .ok (.aload_n 0, 1) := by decide +kernel
theorem dL_law_421 : decode cL_law 421 = .ok (.iload_n 3, 1) := by decide +kernel
theorem dL_law_422 : decode cL_law 422 = .ok (.iconst 2, 1) := by decide +kernel
theorem dL_law_423 : decode cL_law 423 = .ok (.iadd, 1) := by decide +kernel
theorem dL_law_424 : decode cL_law 424 = .ok (.iaload, 1) := by decide +kernel
theorem dL_law_425 : decode cL_law 425 = .ok (.invokevirtual 50, 3) := by decide +kernel
theorem dL_law_428 : decode cL_law 428 = .ok (.aload_n 2, 1) := by decide +kernel
theorem dL_law_429 : decode cL_law 429 = .ok (.aload_n 0, 1) := by decide +kernel
theorem dL_law_430 : decode cL_law 430 = .ok (.iload_n 3, 1) := by decide +kernel
theorem dL_law_431 : decode cL_law 431 = .ok (.iconst 1, 1) := by decide +kernel
theorem dL_law_432 : decode cL_law 432 = .ok (.iadd, 1) := by decide +kernel
theorem dL_law_433 : decode cL_law 433 = .ok (.iaload, 1) := by decide +kernel
theorem dL_law_434 : decode cL_law 434 = .ok (.aload_n 0, 1) := by decide +kernel
theorem dL_law_435 : decode cL_law 435 = .ok (.iload_n 3, 1) := by decide +kernel
theorem dL_law_436 : decode cL_law 436 = .ok (.iconst 2, 1) := by decide +kernel
theorem dL_law_437 : decode cL_law 437 = .ok (.iadd, 1) := by decide +kernel
theorem dL_law_438 : decode cL_law 438 = .ok (.iaload, 1) := by decide +kernel
theorem dL_law_439 : decode cL_law 439 = .ok (.invokevirtual 53, 3) := by decide +kernel
theorem dL_law_442 : decode cL_law 442 = .ok (.if_icmp .eq 386, 3) := by decide +kernel
theorem dL_law_445 : decode cL_law 445 = .ok (.iconst 0, 1) := by decide +kernel
theorem dL_law_446 : decode cL_law 446 = .ok (.ireturn, 1) := by decide +kernel
theorem dL_law_447 : decode cL_law 447 = .ok (.aload_n 1, 1) := by decide +kernel
theorem dL_law_448 : decode cL_law 448 = .ok (.aload_n 0, 1) := by decide +kernel
theorem dL_law_449 : decode cL_law 449 = .ok (.iload_n 3, 1) := by decide +kernel
theorem dL_law_450 : decode cL_law 450 = .ok (.iconst 1, 1) := by decide +kernel
theorem dL_law_451 : decode cL_law 451 = .ok (.iadd, 1) := by decide +kernel
theorem dL_law_452 : decode cL_law 452 = .ok (.iaload, 1) := by decide +kernel
theorem dL_law_453 : decode cL_law 453 = .ok (.aload_n 0, 1) := by decide +kernel
theorem dL_law_454 : decode cL_law 454 = .ok (.iload_n 3, 1) := by decide +kernel
theorem dL_law_455 : decode cL_law 455 = .ok (.iconst 2, 1) := by decide +kernel
theorem dL_law_456 : decode cL_law 456 = .ok (.iadd, 1) := by decide +kernel
theorem dL_law_457 : decode cL_law 457 = .ok (.iaload, 1) := by decide +kernel
theorem dL_law_458 : decode cL_law 458 = .ok (.aload_n 0, 1) := by decide +kernel
theorem dL_law_459 : decode cL_law 459 = .ok (.iload_n 3, 1) := by decide +kernel
theorem dL_law_460 : decode cL_law 460 = .ok (.iconst 3, 1) := by decide +kernel
theorem dL_law_461 : decode cL_law 461 = .ok (.iadd, 1) := by decide +kernel
theorem dL_law_462 : decode cL_law 462 = .ok (.iaload, 1) := by decide +kernel
theorem dL_law_463 : decode cL_law 463 = .ok (.invokevirtual 54, 3) := by decide +kernel
theorem dL_law_466 : decode cL_law 466 = .ok (.aload_n 2, 1) := by decide +kernel
theorem dL_law_467 : decode cL_law 467 = .ok (.aload_n 0, 1) := by decide +kernel
theorem dL_law_468 : decode cL_law 468 = .ok (.iload_n 3, 1) := by decide +kernel
theorem dL_law_469 : decode cL_law 469 = .ok (.iconst 1, 1) := by decide +kernel
theorem dL_law_470 : decode cL_law 470 = .ok (.iadd, 1) := by decide +kernel
theorem dL_law_471 : decode cL_law 471 = .ok (.iaload, 1) := by decide +kernel
theorem dL_law_472 : decode cL_law 472 = .ok (.aload_n 0, 1) := by decide +kernel
theorem dL_law_473 : decode cL_law 473 = .ok (.iload_n 3, 1) := by decide +kernel
theorem dL_law_474 : decode cL_law 474 = .ok (.iconst 2, 1) := by decide +kernel
theorem dL_law_475 : decode cL_law 475 = .ok (.iadd, 1) := by decide +kernel
theorem dL_law_476 : decode cL_law 476 = .ok (.iaload, 1) := by decide +kernel
theorem dL_law_477 : decode cL_law 477 = .ok (.aload_n 0, 1) := by decide +kernel
theorem dL_law_478 : decode cL_law 478 = .ok (.iload_n 3, 1) := by decide +kernel
theorem dL_law_479 : decode cL_law 479 = .ok (.iconst 3, 1) := by decide +kernel
theorem dL_law_480 : decode cL_law 480 = .ok (.iadd, 1) := by decide +kernel
theorem dL_law_481 : decode cL_law 481 = .ok (.iaload, 1) := by decide +kernel
theorem dL_law_482 : decode cL_law 482 = .ok (.invokevirtual 58, 3) := by decide +kernel
theorem dL_law_485 : decode cL_law 485 = .ok (.lcmp, 1) := by decide +kernel
theorem dL_law_486 : decode cL_law 486 = .ok (.ifCond .eq 342, 3) := by decide +kernel
theorem dL_law_489 : decode cL_law 489 = .ok (.iconst 0, 1) := by decide +kernel
theorem dL_law_490 : decode cL_law 490 = .ok (.ireturn, 1) := by decide +kernel
theorem dL_law_491 : decode cL_law 491 = .ok (.aload_n 1, 1) := by decide +kernel
theorem dL_law_492 : decode cL_law 492 = .ok (.aload_n 0, 1) := by decide +kernel
theorem dL_law_493 : decode cL_law 493 = .ok (.iload_n 3, 1) := by decide +kernel
theorem dL_law_494 : decode cL_law 494 = .ok (.iconst 1, 1) := by decide +kernel
theorem dL_law_495 : decode cL_law 495 = .ok (.iadd, 1) := by decide +kernel
theorem dL_law_496 : decode cL_law 496 = .ok (.iaload, 1) := by decide +kernel
theorem dL_law_497 : decode cL_law 497 = .ok (.invokevirtual 59, 3) := by decide +kernel
theorem dL_law_500 : decode cL_law 500 = .ok (.aload_n 2, 1) := by decide +kernel
theorem dL_law_501 : decode cL_law 501 = .ok (.aload_n 0, 1) := by decide +kernel
theorem dL_law_502 : decode cL_law 502 = .ok (.iload_n 3, 1) := by decide +kernel
theorem dL_law_503 : decode cL_law 503 = .ok (.iconst 1, 1) := by decide +kernel
theorem dL_law_504 : decode cL_law 504 = .ok (.iadd, 1) := by decide +kernel
theorem dL_law_505 : decode cL_law 505 = .ok (.iaload, 1) := by decide +kernel
theorem dL_law_506 : decode cL_law 506 = .ok (.invokevirtual 62, 3) := by decide +kernel
theorem dL_law_509 : decode cL_law 509 = .ok (.if_icmp .eq 319, 3) := by decide +kernel
theorem dL_law_512 : decode cL_law 512 = .ok (.iconst 0, 1) := by decide +kernel
theorem dL_law_513 : decode cL_law 513 = .ok (.ireturn, 1) := by decide +kernel
theorem dL_law_514 : decode cL_law 514 = .ok (.aload_n 1, 1) := by decide +kernel
theorem dL_law_515 : decode cL_law 515 = .ok (.aload_n 0, 1) := by decide +kernel
theorem dL_law_516 : decode cL_law 516 = .ok (.iload_n 3, 1) := by decide +kernel
theorem dL_law_517 : decode cL_law 517 = .ok (.iconst 1, 1) := by decide +kernel
theorem dL_law_518 : decode cL_law 518 = .ok (.iadd, 1) := by decide +kernel
theorem dL_law_519 : decode cL_law 519 = .ok (.iaload, 1) := by decide +kernel
theorem dL_law_520 : decode cL_law 520 = .ok (.aload_n 0, 1) := by decide +kernel
theorem dL_law_521 : decode cL_law 521 = .ok (.iload_n 3, 1) := by decide +kernel
theorem dL_law_522 : decode cL_law 522 = .ok (.iconst 2, 1) := by decide +kernel
theorem dL_law_523 : decode cL_law 523 = .ok (.iadd, 1) := by decide +kernel
theorem dL_law_524 : decode cL_law 524 = .ok (.iaload, 1) := by decide +kernel
theorem dL_law_525 : decode cL_law 525 = .ok (.invokevirtual 63, 3) := by decide +kernel
theorem dL_law_528 : decode cL_law 528 = .ok (.aload_n 2, 1) := by decide +kernel
theorem dL_law_529 : decode cL_law 529 = .ok (.aload_n 0, 1) := by decide +kernel
theorem dL_law_530 : decode cL_law 530 = .ok (.iload_n 3, 1) := by decide +kernel
theorem dL_law_531 : decode cL_law 531 = .ok (.iconst 1, 1) := by decide +kernel
theorem dL_law_532 : decode cL_law 532 = .ok (.iadd, 1) := by decide +kernel
theorem dL_law_533 : decode cL_law 533 = .ok (.iaload, 1) := by decide +kernel
theorem dL_law_534 : decode cL_law 534 = .ok (.aload_n 0, 1) := by decide +kernel
theorem dL_law_535 : decode cL_law 535 = .ok (.iload_n 3, 1) := by decide +kernel
theorem dL_law_536 : decode cL_law 536 = .ok (.iconst 2, 1) := by decide +kernel
theorem dL_law_537 : decode cL_law 537 = .ok (.iadd, 1) := by decide +kernel
theorem dL_law_538 : decode cL_law 538 = .ok (.iaload, 1) := by decide +kernel
theorem dL_law_539 : decode cL_law 539 = .ok (.invokevirtual 66, 3) := by decide +kernel
theorem dL_law_542 : decode cL_law 542 = .ok (.if_icmp .eq 286, 3) := by decide +kernel
theorem dL_law_545 : decode cL_law 545 = .ok (.iconst 0, 1) := by decide +kernel
theorem dL_law_546 : decode cL_law 546 = .ok (.ireturn, 1) := by decide +kernel
theorem dL_law_547 : decode cL_law 547 = .ok (.aload_n 1, 1) := by decide +kernel
theorem dL_law_548 : decode cL_law 548 = .ok (.aload_n 0, 1) := by decide +kernel
theorem dL_law_549 : decode cL_law 549 = .ok (.iload_n 3, 1) := by decide +kernel
theorem dL_law_550 : decode cL_law 550 = .ok (.iconst 1, 1) := by decide +kernel
theorem dL_law_551 : decode cL_law 551 = .ok (.iadd, 1) := by decide +kernel
theorem dL_law_552 : decode cL_law 552 = .ok (.iaload, 1) := by decide +kernel
theorem dL_law_553 : decode cL_law 553 = .ok (.aload_n 0, 1) := by decide +kernel
theorem dL_law_554 : decode cL_law 554 = .ok (.iload_n 3, 1) := by decide +kernel
theorem dL_law_555 : decode cL_law 555 = .ok (.iconst 2, 1) := by decide +kernel
theorem dL_law_556 : decode cL_law 556 = .ok (.iadd, 1) := by decide +kernel
theorem dL_law_557 : decode cL_law 557 = .ok (.iaload, 1) := by decide +kernel
theorem dL_law_558 : decode cL_law 558 = .ok (.invokevirtual 67, 3) := by decide +kernel
theorem dL_law_561 : decode cL_law 561 = .ok (.aload_n 2, 1) := by decide +kernel
theorem dL_law_562 : decode cL_law 562 = .ok (.aload_n 0, 1) := by decide +kernel
theorem dL_law_563 : decode cL_law 563 = .ok (.iload_n 3, 1) := by decide +kernel
theorem dL_law_564 : decode cL_law 564 = .ok (.iconst 1, 1) := by decide +kernel
theorem dL_law_565 : decode cL_law 565 = .ok (.iadd, 1) := by decide +kernel
theorem dL_law_566 : decode cL_law 566 = .ok (.iaload, 1) := by decide +kernel
theorem dL_law_567 : decode cL_law 567 = .ok (.aload_n 0, 1) := by decide +kernel
theorem dL_law_568 : decode cL_law 568 = .ok (.iload_n 3, 1) := by decide +kernel
theorem dL_law_569 : decode cL_law 569 = .ok (.iconst 2, 1) := by decide +kernel
theorem dL_law_570 : decode cL_law 570 = .ok (.iadd, 1) := by decide +kernel
theorem dL_law_571 : decode cL_law 571 = .ok (.iaload, 1) := by decide +kernel
theorem dL_law_572 : decode cL_law 572 = .ok (.invokevirtual 70, 3) := by decide +kernel
theorem dL_law_575 : decode cL_law 575 = .ok (.lcmp, 1) := by decide +kernel
theorem dL_law_576 : decode cL_law 576 = .ok (.ifCond .eq 252, 3) := by decide +kernel
theorem dL_law_579 : decode cL_law 579 = .ok (.iconst 0, 1) := by decide +kernel
theorem dL_law_580 : decode cL_law 580 = .ok (.ireturn, 1) := by decide +kernel
theorem dL_law_581 : decode cL_law 581 = .ok (.aload_n 1, 1) := by decide +kernel
theorem dL_law_582 : decode cL_law 582 = .ok (.invokevirtual 71, 3) := by decide +kernel
theorem dL_law_585 : decode cL_law 585 = .ok (.aload_n 2, 1) := by decide +kernel
theorem dL_law_586 : decode cL_law 586 = .ok (.invokevirtual 75, 3) := by decide +kernel
theorem dL_law_589 : decode cL_law 589 = .ok (.if_icmp .eq 239, 3) := by decide +kernel
theorem dL_law_592 : decode cL_law 592 = .ok (.iconst 0, 1) := by decide +kernel
theorem dL_law_593 : decode cL_law 593 = .ok (.ireturn, 1) := by decide +kernel
theorem dL_law_594 : decode cL_law 594 = .ok (.aload_n 1, 1) := by decide +kernel
theorem dL_law_595 : decode cL_law 595 = .ok (.aload_n 0, 1) := by decide +kernel
theorem dL_law_596 : decode cL_law 596 = .ok (.iload_n 3, 1) := by decide +kernel
theorem dL_law_597 : decode cL_law 597 = .ok (.iconst 1, 1) := by decide +kernel
theorem dL_law_598 : decode cL_law 598 = .ok (.iadd, 1) := by decide +kernel
theorem dL_law_599 : decode cL_law 599 = .ok (.iaload, 1) := by decide +kernel
theorem dL_law_600 : decode cL_law 600 = .ok (.aload_n 0, 1) := by decide +kernel
theorem dL_law_601 : decode cL_law 601 = .ok (.iload_n 3, 1) := by decide +kernel
theorem dL_law_602 : decode cL_law 602 = .ok (.iconst 2, 1) := by decide +kernel
theorem dL_law_603 : decode cL_law 603 = .ok (.iadd, 1) := by decide +kernel
theorem dL_law_604 : decode cL_law 604 = .ok (.iaload, 1) := by decide +kernel
theorem dL_law_605 : decode cL_law 605 = .ok (.invokevirtual 76, 3) := by decide +kernel
theorem dL_law_608 : decode cL_law 608 = .ok (.aload_n 2, 1) := by decide +kernel
theorem dL_law_609 : decode cL_law 609 = .ok (.aload_n 0, 1) := by decide +kernel
theorem dL_law_610 : decode cL_law 610 = .ok (.iload_n 3, 1) := by decide +kernel
theorem dL_law_611 : decode cL_law 611 = .ok (.iconst 1, 1) := by decide +kernel
theorem dL_law_612 : decode cL_law 612 = .ok (.iadd, 1) := by decide +kernel
theorem dL_law_613 : decode cL_law 613 = .ok (.iaload, 1) := by decide +kernel
theorem dL_law_614 : decode cL_law 614 = .ok (.aload_n 0, 1) := by decide +kernel
theorem dL_law_615 : decode cL_law 615 = .ok (.iload_n 3, 1) := by decide +kernel
theorem dL_law_616 : decode cL_law 616 = .ok (.iconst 2, 1) := by decide +kernel
theorem dL_law_617 : decode cL_law 617 = .ok (.iadd, 1) := by decide +kernel
theorem dL_law_618 : decode cL_law 618 = .ok (.iaload, 1) := by decide +kernel
theorem dL_law_619 : decode cL_law 619 = .ok (.invokevirtual 79, 3) := by decide +kernel
theorem dL_law_622 : decode cL_law 622 = .ok (.if_icmp .eq 206, 3) := by decide +kernel
theorem dL_law_625 : decode cL_law 625 = .ok (.iconst 0, 1) := by decide +kernel
theorem dL_law_626 : decode cL_law 626 = .ok (.ireturn, 1) := by decide +kernel
theorem dL_law_627 : decode cL_law 627 = .ok (.aload_n 1, 1) := by decide +kernel
theorem dL_law_628 : decode cL_law 628 = .ok (.aload_n 0, 1) := by decide +kernel
theorem dL_law_629 : decode cL_law 629 = .ok (.iload_n 3, 1) := by decide +kernel
theorem dL_law_630 : decode cL_law 630 = .ok (.iconst 1, 1) := by decide +kernel
theorem dL_law_631 : decode cL_law 631 = .ok (.iadd, 1) := by decide +kernel
theorem dL_law_632 : decode cL_law 632 = .ok (.iaload, 1) := by decide +kernel
theorem dL_law_633 : decode cL_law 633 = .ok (.invokevirtual 80, 3) := by decide +kernel
theorem dL_law_636 : decode cL_law 636 = .ok (.aload_n 2, 1) := by decide +kernel
theorem dL_law_637 : decode cL_law 637 = .ok (.aload_n 0, 1) := by decide +kernel
theorem dL_law_638 : decode cL_law 638 = .ok (.iload_n 3, 1) := by decide +kernel
theorem dL_law_639 : decode cL_law 639 = .ok (.iconst 1, 1) := by decide +kernel
theorem dL_law_640 : decode cL_law 640 = .ok (.iadd, 1) := by decide +kernel
theorem dL_law_641 : decode cL_law 641 = .ok (.iaload, 1) := by decide +kernel
theorem dL_law_642 : decode cL_law 642 = .ok (.invokevirtual 83, 3) := by decide +kernel
theorem dL_law_645 : decode cL_law 645 = .ok (.if_icmp .eq 183, 3) := by decide +kernel
theorem dL_law_648 : decode cL_law 648 = .ok (.iconst 0, 1) := by decide +kernel
theorem dL_law_649 : decode cL_law 649 = .ok (.ireturn, 1) := by decide +kernel
theorem dL_law_650 : decode cL_law 650 = .ok (.aload_n 1, 1) := by decide +kernel
theorem dL_law_651 : decode cL_law 651 = .ok (.aload_n 0, 1) := by decide +kernel
theorem dL_law_652 : decode cL_law 652 = .ok (.iload_n 3, 1) := by decide +kernel
theorem dL_law_653 : decode cL_law 653 = .ok (.iconst 1, 1) := by decide +kernel
theorem dL_law_654 : decode cL_law 654 = .ok (.iadd, 1) := by decide +kernel
theorem dL_law_655 : decode cL_law 655 = .ok (.iaload, 1) := by decide +kernel
theorem dL_law_656 : decode cL_law 656 = .ok (.invokevirtual 84, 3) := by decide +kernel
theorem dL_law_659 : decode cL_law 659 = .ok (.aload_n 2, 1) := by decide +kernel
theorem dL_law_660 : decode cL_law 660 = .ok (.aload_n 0, 1) := by decide +kernel
theorem dL_law_661 : decode cL_law 661 = .ok (.iload_n 3, 1) := by decide +kernel
theorem dL_law_662 : decode cL_law 662 = .ok (.iconst 1, 1) := by decide +kernel
theorem dL_law_663 : decode cL_law 663 = .ok (.iadd, 1) := by decide +kernel
theorem dL_law_664 : decode cL_law 664 = .ok (.iaload, 1) := by decide +kernel
theorem dL_law_665 : decode cL_law 665 = .ok (.invokevirtual 87, 3) := by decide +kernel
theorem dL_law_668 : decode cL_law 668 = .ok (.if_icmp .eq 160, 3) := by decide +kernel
theorem dL_law_671 : decode cL_law 671 = .ok (.iconst 0, 1) := by decide +kernel
theorem dL_law_672 : decode cL_law 672 = .ok (.ireturn, 1) := by decide +kernel
theorem dL_law_673 : decode cL_law 673 = .ok (.aload_n 1, 1) := by decide +kernel
theorem dL_law_674 : decode cL_law 674 = .ok (.invokevirtual 88, 3) := by decide +kernel
theorem dL_law_677 : decode cL_law 677 = .ok (.aload_n 2, 1) := by decide +kernel
theorem dL_law_678 : decode cL_law 678 = .ok (.invokevirtual 91, 3) := by decide +kernel
theorem dL_law_681 : decode cL_law 681 = .ok (.if_icmp .eq 147, 3) := by decide +kernel
theorem dL_law_684 : decode cL_law 684 = .ok (.iconst 0, 1) := by decide +kernel
theorem dL_law_685 : decode cL_law 685 = .ok (.ireturn, 1) := by decide +kernel
theorem dL_law_686 : decode cL_law 686 = .ok (.aload_n 1, 1) := by decide +kernel
theorem dL_law_687 : decode cL_law 687 = .ok (.invokevirtual 92, 3) := by decide +kernel
theorem dL_law_690 : decode cL_law 690 = .ok (.aload_n 2, 1) := by decide +kernel
theorem dL_law_691 : decode cL_law 691 = .ok (.invokevirtual 95, 3) := by decide +kernel
theorem dL_law_694 : decode cL_law 694 = .ok (.if_icmp .eq 134, 3) := by decide +kernel
theorem dL_law_697 : decode cL_law 697 = .ok (.iconst 0, 1) := by decide +kernel
theorem dL_law_698 : decode cL_law 698 = .ok (.ireturn, 1) := by decide +kernel
theorem dL_law_699 : decode cL_law 699 = .ok (.aload_n 1, 1) := by decide +kernel
theorem dL_law_700 : decode cL_law 700 = .ok (.invokevirtual 96, 3) := by decide +kernel
theorem dL_law_703 : decode cL_law 703 = .ok (.aload_n 2, 1) := by decide +kernel
theorem dL_law_704 : decode cL_law 704 = .ok (.invokevirtual 99, 3) := by decide +kernel
theorem dL_law_707 : decode cL_law 707 = .ok (.if_icmp .eq 121, 3) := by decide +kernel
theorem dL_law_710 : decode cL_law 710 = .ok (.iconst 0, 1) := by decide +kernel
theorem dL_law_711 : decode cL_law 711 = .ok (.ireturn, 1) := by decide +kernel
theorem dL_law_712 : decode cL_law 712 = .ok (.aload_n 1, 1) := by decide +kernel
theorem dL_law_713 : decode cL_law 713 = .ok (.aload_n 0, 1) := by decide +kernel
theorem dL_law_714 : decode cL_law 714 = .ok (.iload_n 3, 1) := by decide +kernel
theorem dL_law_715 : decode cL_law 715 = .ok (.iconst 1, 1) := by decide +kernel
theorem dL_law_716 : decode cL_law 716 = .ok (.iadd, 1) := by decide +kernel
theorem dL_law_717 : decode cL_law 717 = .ok (.iaload, 1) := by decide +kernel
theorem dL_law_718 : decode cL_law 718 = .ok (.aload_n 0, 1) := by decide +kernel
theorem dL_law_719 : decode cL_law 719 = .ok (.iload_n 3, 1) := by decide +kernel
theorem dL_law_720 : decode cL_law 720 = .ok (.iconst 2, 1) := by decide +kernel
theorem dL_law_721 : decode cL_law 721 = .ok (.iadd, 1) := by decide +kernel
theorem dL_law_722 : decode cL_law 722 = .ok (.iaload, 1) := by decide +kernel
theorem dL_law_723 : decode cL_law 723 = .ok (.invokevirtual 100, 3) := by decide +kernel
theorem dL_law_726 : decode cL_law 726 = .ok (.aload_n 2, 1) := by decide +kernel
theorem dL_law_727 : decode cL_law 727 = .ok (.aload_n 0, 1) := by decide +kernel
theorem dL_law_728 : decode cL_law 728 = .ok (.iload_n 3, 1) := by decide +kernel
theorem dL_law_729 : decode cL_law 729 = .ok (.iconst 1, 1) := by decide +kernel
theorem dL_law_730 : decode cL_law 730 = .ok (.iadd, 1) := by decide +kernel
theorem dL_law_731 : decode cL_law 731 = .ok (.iaload, 1) := by decide +kernel
theorem dL_law_732 : decode cL_law 732 = .ok (.aload_n 0, 1) := by decide +kernel
theorem dL_law_733 : decode cL_law 733 = .ok (.iload_n 3, 1) := by decide +kernel
theorem dL_law_734 : decode cL_law 734 = .ok (.iconst 2, 1) := by decide +kernel
theorem dL_law_735 : decode cL_law 735 = .ok (.iadd, 1) := by decide +kernel
theorem dL_law_736 : decode cL_law 736 = .ok (.iaload, 1) := by decide +kernel
theorem dL_law_737 : decode cL_law 737 = .ok (.invokevirtual 103, 3) := by decide +kernel
theorem dL_law_740 : decode cL_law 740 = .ok (.if_icmp .eq 88, 3) := by decide +kernel
theorem dL_law_743 : decode cL_law 743 = .ok (.iconst 0, 1) := by decide +kernel
theorem dL_law_744 : decode cL_law 744 = .ok (.ireturn, 1) := by decide +kernel
theorem dL_law_745 : decode cL_law 745 = .ok (.aload_n 1, 1) := by decide +kernel
theorem dL_law_746 : decode cL_law 746 = .ok (.aload_n 0, 1) := by decide +kernel
theorem dL_law_747 : decode cL_law 747 = .ok (.iload_n 3, 1) := by decide +kernel
theorem dL_law_748 : decode cL_law 748 = .ok (.iconst 1, 1) := by decide +kernel
theorem dL_law_749 : decode cL_law 749 = .ok (.iadd, 1) := by decide +kernel
theorem dL_law_750 : decode cL_law 750 = .ok (.iaload, 1) := by decide +kernel
theorem dL_law_751 : decode cL_law 751 = .ok (.invokevirtual 104, 3) := by decide +kernel
theorem dL_law_754 : decode cL_law 754 = .ok (.aload_n 2, 1) := by decide +kernel
theorem dL_law_755 : decode cL_law 755 = .ok (.aload_n 0, 1) := by decide +kernel
theorem dL_law_756 : decode cL_law 756 = .ok (.iload_n 3, 1) := by decide +kernel
theorem dL_law_757 : decode cL_law 757 = .ok (.iconst 1, 1) := by decide +kernel
theorem dL_law_758 : decode cL_law 758 = .ok (.iadd, 1) := by decide +kernel
theorem dL_law_759 : decode cL_law 759 = .ok (.iaload, 1) := by decide +kernel
theorem dL_law_760 : decode cL_law 760 = .ok (.invokevirtual 107, 3) := by decide +kernel
theorem dL_law_763 : decode cL_law 763 = .ok (.lcmp, 1) := by decide +kernel
theorem dL_law_764 : decode cL_law 764 = .ok (.ifCond .eq 64, 3) := by decide +kernel
theorem dL_law_767 : decode cL_law 767 = .ok (.iconst 0, 1) := by decide +kernel
theorem dL_law_768 : decode cL_law 768 = .ok (.ireturn, 1) := by decide +kernel
theorem dL_law_769 : decode cL_law 769 = .ok (.aload_n 1, 1) := by decide +kernel
theorem dL_law_770 : decode cL_law 770 = .ok (.invokevirtual 108, 3) := by decide +kernel
theorem dL_law_773 : decode cL_law 773 = .ok (.aload_n 2, 1) := by decide +kernel
theorem dL_law_774 : decode cL_law 774 = .ok (.invokevirtual 111, 3) := by decide +kernel
theorem dL_law_777 : decode cL_law 777 = .ok (.if_icmp .eq 51, 3) := by decide +kernel
theorem dL_law_780 : decode cL_law 780 = .ok (.iconst 0, 1) := by decide +kernel
theorem dL_law_781 : decode cL_law 781 = .ok (.ireturn, 1) := by decide +kernel
theorem dL_law_782 : decode cL_law 782 = .ok (.aload_n 1, 1) := by decide +kernel
theorem dL_law_783 : decode cL_law 783 = .ok (.aload_n 0, 1) := by decide +kernel
theorem dL_law_784 : decode cL_law 784 = .ok (.iload_n 3, 1) := by decide +kernel
theorem dL_law_785 : decode cL_law 785 = .ok (.iconst 1, 1) := by decide +kernel
theorem dL_law_786 : decode cL_law 786 = .ok (.iadd, 1) := by decide +kernel
theorem dL_law_787 : decode cL_law 787 = .ok (.iaload, 1) := by decide +kernel
theorem dL_law_788 : decode cL_law 788 = .ok (.invokevirtual 112, 3) := by decide +kernel
theorem dL_law_791 : decode cL_law 791 = .ok (.aload_n 2, 1) := by decide +kernel
theorem dL_law_792 : decode cL_law 792 = .ok (.aload_n 0, 1) := by decide +kernel
theorem dL_law_793 : decode cL_law 793 = .ok (.iload_n 3, 1) := by decide +kernel
theorem dL_law_794 : decode cL_law 794 = .ok (.iconst 1, 1) := by decide +kernel
theorem dL_law_795 : decode cL_law 795 = .ok (.iadd, 1) := by decide +kernel
theorem dL_law_796 : decode cL_law 796 = .ok (.iaload, 1) := by decide +kernel
theorem dL_law_797 : decode cL_law 797 = .ok (.invokevirtual 115, 3) := by decide +kernel
theorem dL_law_800 : decode cL_law 800 = .ok (.if_icmp .eq 28, 3) := by decide +kernel
theorem dL_law_803 : decode cL_law 803 = .ok (.iconst 0, 1) := by decide +kernel
theorem dL_law_804 : decode cL_law 804 = .ok (.ireturn, 1) := by decide +kernel
theorem dL_law_805 : decode cL_law 805 = .ok (.aload_n 1, 1) := by decide +kernel
theorem dL_law_806 : decode cL_law 806 = .ok (.aload_n 0, 1) := by decide +kernel
theorem dL_law_807 : decode cL_law 807 = .ok (.iload_n 3, 1) := by decide +kernel
theorem dL_law_808 : decode cL_law 808 = .ok (.iconst 1, 1) := by decide +kernel
theorem dL_law_809 : decode cL_law 809 = .ok (.iadd, 1) := by decide +kernel
theorem dL_law_810 : decode cL_law 810 = .ok (.iaload, 1) := by decide +kernel
theorem dL_law_811 : decode cL_law 811 = .ok (.invokevirtual 116, 3) := by decide +kernel
theorem dL_law_814 : decode cL_law 814 = .ok (.aload_n 2, 1) := by decide +kernel
theorem dL_law_815 : decode cL_law 815 = .ok (.aload_n 0, 1) := by decide +kernel
theorem dL_law_816 : decode cL_law 816 = .ok (.iload_n 3, 1) := by decide +kernel
theorem dL_law_817 : decode cL_law 817 = .ok (.iconst 1, 1) := by decide +kernel
theorem dL_law_818 : decode cL_law 818 = .ok (.iadd, 1) := by decide +kernel
theorem dL_law_819 : decode cL_law 819 = .ok (.iaload, 1) := by decide +kernel
theorem dL_law_820 : decode cL_law 820 = .ok (.invokevirtual 119, 3) := by decide +kernel
theorem dL_law_823 : decode cL_law 823 = .ok (.if_icmp .eq 5, 3) := by decide +kernel
theorem dL_law_826 : decode cL_law 826 = .ok (.iconst 0, 1) := by decide +kernel
theorem dL_law_827 : decode cL_law 827 = .ok (.ireturn, 1) := by decide +kernel
theorem dL_law_828 : decode cL_law 828 = .ok (.iinc 3 4, 3) := by decide +kernel
theorem dL_law_831 : decode cL_law 831 = .ok (.goto (-813), 3) := by decide +kernel
theorem dL_law_834 : decode cL_law 834 = .ok (.iconst 1, 1) := by decide +kernel
theorem dL_law_835 : decode cL_law 835 = .ok (.ireturn, 1) := by decide +kernel
end
section
/-! my own rows: one fixed world of cells, what it holds is st; a row an instruction, a row a call -/
def isNest : Cond → Bool
  | .fieldLinkNest .. => true
  | .methodLinkNest .. => true
  | _ => false
def TB : List Cond := lw_tbl.filter goodWord
def NB : List Cond := tables_1.filter isNest
theorem tb_in {n : Nat} {w : Cond} (h : tables_1[n]? = some w) (hg : goodWord w = true) : w ∈ TB := List.mem_filter.mpr ⟨List.mem_append_right _ (List.mem_of_getElem? h), hg⟩
theorem tb_sel {n : Nat} {w : Cond} (h : (k2_sels lw_privs)[n]? = some w) (hg : goodWord w = true) : w ∈ TB := List.mem_filter.mpr ⟨List.mem_append_left _ (List.mem_of_getElem? h), hg⟩
theorem nb_in {n : Nat} {w : Cond} (h : tables_1[n]? = some w) (hg : isNest w = true) : w ∈ NB := List.mem_filter.mpr ⟨List.mem_of_getElem? h, hg⟩
theorem tb_good {w : Cond} (h : w ∈ TB) : goodWord w = true := (List.mem_filter.mp h).2
theorem goodIn_tb {big ws : List Cond} (hb : ∀ w ∈ TB, w ∈ big) (h : ∀ w ∈ ws, w ∈ TB) : GoodIn big ws := fun w hw => ⟨hb w (h w hw), good_of_word (tb_good (h w hw))⟩
theorem nb_warm {s U : State} (hW : s.WarmedH U.vm) (h : ∀ w ∈ NB, va_Nw w s) : ∀ w ∈ NB, va_Nw w U := by
  intro w hw
  have h1 := h w hw
  have h2 : isNest w = true := (List.mem_filter.mp hw).2
  cases w with
  | fieldLinkNest a i b n d x => exact va_Nw.warmF hW h1
  | methodLinkNest a i x y => exact va_Nw.warmM hW h1
  | _ => cases h2
theorem nb_same {u U : State} (e : u.vm = U.vm) (h : ∀ w ∈ NB, va_Nw w u) : ∀ w ∈ NB, va_Nw w U := by
  intro w hw
  have h1 := h w hw
  have h2 : isNest w = true := (List.mem_filter.mp hw).2
  cases w with
  | fieldLinkNest a i b n d x => exact va_Nw.same rfl e h1
  | methodLinkNest a i x y => exact va_Nw.same rfl e h1
  | _ => cases h2
theorem nb_of {args : Array Value} {s : State} (h : ∀ w ∈ tables_1, w.before args s = true) : ∀ w ∈ NB, va_Nw w s := by
  intro w hw
  have h1 := h w (List.mem_filter.mp hw).1
  have h2 : isNest w = true := (List.mem_filter.mp hw).2
  cases w with
  | fieldLinkNest a i b n d x => exact va_Nw.of rfl h1
  | methodLinkNest a i x y => exact va_Nw.of rfl h1
  | _ => cases h2
/-- what the cells hold: ints and longs by the cell's place and the slot -/
abbrev Sg : Type := (Nat → Nat → Int32) × (Nat → Nat → Int64)
def sI (st : Sg) (o k : Nat) (v : Int32) : Sg := (va_up st.1 o (upd (st.1 o) k v), st.2)
def sJ (st : Sg) (o k : Nat) (v : Int64) : Sg := (st.1, va_up st.2 o (vp_updL (st.2 o) k v))
def sIr (st : Sg) (o : Nat) (f : Nat → Int32) : Sg := (va_up st.1 o f, st.2)
def sJr (st : Sg) (o : Nat) (f : Nat → Int64) : Sg := (st.1, va_up st.2 o f)
abbrev Ce : Type := Nat → (Nat → Int32) → (Nat → Int64) → va_E
/-- fields' and classes' numbers, addresses of the places, classes of int[], long[], int[][], long[][] -/
abbrev Gx : Type := va_G × (Nat → Nat) × ClassId × ClassId × ClassId × ClassId
def tysG (g : Gx) : List (ClassId × FieldType) := [(g.2.2.1, .int), (g.2.2.2.1, .long), (g.2.2.2.2.1, .array .int), (g.2.2.2.2.2, .array .long)]
def wdG (N : Nat) (ad : Nat → Nat) (ce : Ce) (st : Sg) : va_W := (List.range N).map (fun k => (ad k, ce k (st.1 k) (st.2 k)))
theorem wdG_get {N : Nat} {ad : Nat → Nat} {ce : Ce} {st : Sg} {k : Nat} (h : k < N) {e : va_E} (he : ce k (st.1 k) (st.2 k) = e) : (wdG N ad ce st)[k]? = some (ad k, e) := by
  subst he
  simp [wdG, h]
theorem wdG_set {N : Nat} {ad : Nat → Nat} {ce : Ce} {st st' : Sg} {o : Nat} {e : va_E} (h1 : ∀ j, j ≠ o → st'.1 j = st.1 j) (h2 : ∀ j, j ≠ o → st'.2 j = st.2 j) (he : ce o (st'.1 o) (st'.2 o) = e) : (wdG N ad ce st).set o (ad o, e) = wdG N ad ce st' := by
  subst he
  apply List.ext_getElem?
  intro k
  by_cases hk : k = o
  · subst hk
    by_cases hN : k < N
    · simp [wdG, List.getElem?_set, hN]
    · simp [wdG, hN]
  · simp only [wdG, List.getElem?_set]
    rw [if_neg (Ne.symm hk)]
    by_cases hN : k < N
    · simp [hN, h1 k hk, h2 k hk]
    · simp [hN]
/-- the heap holds st, apart, and nothing else was written since H0 -/
def Hp (g : Gx) (N : Nat) (ce : Ce) (A : Nat → Prop) (H0 : Heap) (st : Sg) (H : Heap) (locs : List Loc) : Prop :=
  va_P g.1 vwCl (wdG N g.2.1 ce st) H ∧ va_D A (wdG N g.2.1 ce st) ∧ va_S A H0 H locs ∧ ∀ q, H0.size ≤ q → A q
def Cx (g : Gx) (p : Program) (s : State) (m : MethodId) (args : Array Value) (meth : Method) (c : Code) (cc : ByteArray) (nL : Nat) (own : String) (rt : Option FieldType) : Prop :=
  p.tables.exec = Jvm.exec ∧ c.code = cc ∧ c.maxLocals = nL ∧ s.vm.findClass own = some m.cls ∧ (∀ w ∈ TB, w.before args s = true) ∧ (∀ w ∈ NB, va_Nw w s) ∧ va_K g.1 vwCl (tysG g) s ∧ meth.locks = false ∧ meth.sig.returnType = rt
def Fld (own : String) (idx ci k : Nat) (fin : Bool) (ty : FieldType) : Prop :=
  ∃ (C : String) (T : u_T) (N : Nat) (t0 : Nat → FieldType), vwCl[ci]? = some (C, T, N) ∧ k < N ∧ (∀ w ∈ u_ws C T N, w ∈ TB) ∧ (∀ k, k < N → parseFieldDescriptor (T k).2.2.1 = some (t0 k)) ∧ (∀ a, a < N → ∀ b, b < N → a ≠ b → (T a).2.1 ≠ (T b).2.1) ∧ (T k).2.2.2 = fin ∧ parseFieldDescriptor (T k).2.2.1 = some ty ∧
    (Cond.fieldLink own idx (T k).1 (T k).2.1 (T k).2.2.1 ∈ TB ∨ ∃ host, Cond.fieldLinkNest own idx (T k).1 (T k).2.1 (T k).2.2.1 host ∈ NB)
section KIT
variable {p : Program} {l : Launch} {e : Env} {R : Room} {s : State} {m : MethodId} {args : Array Value} {below : List Frame} {meth : Method} {c : Code} {H H0 : Heap} {locs : List Loc} {cells slots : Nat} {Q : State → Prop}
variable {cc : ByteArray} {pc nL N : Nat} {ls : Array Slot} {rest : List Value} {g : Gx} {ce : Ce} {A : Nat → Prop} {st st' : Sg} {own : String} {rt : Option FieldType} {o : Nat}
theorem k_get (X : Cx g p s m args meth c cc nL own rt) (Y : Hp g N ce A H0 st H locs) {idx ci k : Nat} {fin : Bool} {ty : FieldType} (hf : Fld own idx ci k fin ty) (o : Nat) (ho : o < N) {fs : List Value} (he : ce o (st.1 o) (st.2 o) = .inr (ci, fs)) {v : Value} (hv : fs[k]? = some v) (hdg : decode cc pc = .ok (.getfield idx, 3))
    (kk : W p l e R s m args below meth c H locs cells slots Q (F0 m (pc + 3) ls (v :: rest))) : W p l e R s m args below meth c H locs cells slots Q (F0 m pc ls (.ref (g.2.1 o) :: rest)) := by
  obtain ⟨hx, hb, hml, hown, hts, hN, hK, hlk, hrt⟩ := X
  obtain ⟨hP, hD, hS, hA⟩ := Y
  obtain ⟨C, T, N', t0, hc, hk, hin, hty, hnm, hfin, hd, hl⟩ := hf
  rcases hl with hl | ⟨host, hl⟩
  · exact va_get hx hb hts hin hown hK hP o (wdG_get ho he) hc k hk (hts _ hl) (fun _ h => h) hv hdg kk
  · exact va_getN hx hb hts hin hown hK hP o (wdG_get ho he) hc k hk (va_Nw.use rfl (hN _ hl)) (fun _ h => h) hv hdg kk
theorem k_putI (X : Cx g p s m args meth c cc nL own rt) (Y : Hp g N ce A H0 st H locs) {idx ci k : Nat} {ty : FieldType} (hf : Fld own idx ci k false ty) (o : Nat) (ho : o < N) {fs : List Value} (he : ce o (st.1 o) (st.2 o) = .inr (ci, fs)) {v : Int32} (hn : narrow ty (.int v) = .int v) (hfit : fits ty (.int v) = true) (hl0 : k < fs.length) (hs : ce o (upd (st.1 o) k v) (st.2 o) = .inr (ci, fs.set k (.int v))) (hdg : decode cc pc = .ok (.putfield idx, 3))
    (kk : ∀ (H1 : Heap) (locs1 : List Loc), Hp g N ce A H0 (sI st o k v) H1 locs1 → W p l e R s m args below meth c H1 locs1 cells slots Q (F0 m (pc + 3) ls rest)) : W p l e R s m args below meth c H locs cells slots Q (F0 m pc ls (.int v :: .ref (g.2.1 o) :: rest)) := by
  obtain ⟨hx, hb, hml, hown, hts, hN, hK, hlk, hrt⟩ := X
  obtain ⟨hP, hD, hS, hA⟩ := Y
  obtain ⟨C, T, N', t0, hc, hk, hin, hty, hnm, hfin, hd, hl⟩ := hf
  have hset : (wdG N g.2.1 ce st).set o (g.2.1 o, .inr (ci, fs.set k (.int v))) = wdG N g.2.1 ce (sI st o k v) := by
    refine wdG_set (fun j hj => ?_) (fun j hj => rfl) ?_
    · simp [sI, va_up, hj]
    · rw [← hs]; simp [sI, va_up]
  rcases hl with hl | ⟨host, hl⟩
  · refine va_put (v := .int v) (ty := ty) hx hb hts hin t0 hty hnm hown hK hP hD hS o (wdG_get ho he) hc k hk (hts _ hl) (fun _ h => h) hfin hd hn hfit hl0 hdg (fun H1 locs1 hP1 hD1 hS1 => ?_)
    rw [hset] at hP1 hD1
    exact kk H1 locs1 ⟨hP1, hD1, hS1, hA⟩
  · refine va_putN (v := .int v) (ty := ty) hx hb hts hin t0 hty hnm hown hK hP hD hS o (wdG_get ho he) hc k hk (va_Nw.use rfl (hN _ hl)) (fun _ h => h) hfin hd hn hfit hl0 hdg (fun H1 locs1 hP1 hD1 hS1 => ?_)
    rw [hset] at hP1 hD1
    exact kk H1 locs1 ⟨hP1, hD1, hS1, hA⟩
theorem k_putJ (X : Cx g p s m args meth c cc nL own rt) (Y : Hp g N ce A H0 st H locs) {idx ci k : Nat} (hf : Fld own idx ci k false .long) (o : Nat) (ho : o < N) {fs : List Value} (he : ce o (st.1 o) (st.2 o) = .inr (ci, fs)) {v : Int64} (hl0 : k < fs.length) (hs : ce o (st.1 o) (vp_updL (st.2 o) k v) = .inr (ci, fs.set k (.long v))) (hdg : decode cc pc = .ok (.putfield idx, 3))
    (kk : ∀ (H1 : Heap) (locs1 : List Loc), Hp g N ce A H0 (sJ st o k v) H1 locs1 → W p l e R s m args below meth c H1 locs1 cells slots Q (F0 m (pc + 3) ls rest)) : W p l e R s m args below meth c H locs cells slots Q (F0 m pc ls (.long v :: .ref (g.2.1 o) :: rest)) := by
  obtain ⟨hx, hb, hml, hown, hts, hN, hK, hlk, hrt⟩ := X
  obtain ⟨hP, hD, hS, hA⟩ := Y
  obtain ⟨C, T, N', t0, hc, hk, hin, hty, hnm, hfin, hd, hl⟩ := hf
  have hset : (wdG N g.2.1 ce st).set o (g.2.1 o, .inr (ci, fs.set k (.long v))) = wdG N g.2.1 ce (sJ st o k v) := by
    refine wdG_set (fun j hj => rfl) (fun j hj => ?_) ?_
    · simp [sJ, va_up, hj]
    · rw [← hs]; simp [sJ, va_up]
  rcases hl with hl | ⟨host, hl⟩
  · refine va_put (v := .long v) (ty := .long) hx hb hts hin t0 hty hnm hown hK hP hD hS o (wdG_get ho he) hc k hk (hts _ hl) (fun _ h => h) hfin hd rfl rfl hl0 hdg (fun H1 locs1 hP1 hD1 hS1 => ?_)
    rw [hset] at hP1 hD1
    exact kk H1 locs1 ⟨hP1, hD1, hS1, hA⟩
  · refine va_putN (v := .long v) (ty := .long) hx hb hts hin t0 hty hnm hown hK hP hD hS o (wdG_get ho he) hc k hk (va_Nw.use rfl (hN _ hl)) (fun _ h => h) hfin hd rfl rfl hl0 hdg (fun H1 locs1 hP1 hD1 hS1 => ?_)
    rw [hset] at hP1 hD1
    exact kk H1 locs1 ⟨hP1, hD1, hS1, hA⟩
/-- the place o is an int[] of n, a long[] of n, an array of n rows that lie from the place b on -/
def IsI (g : Gx) (ce : Ce) (o n : Nat) : Prop := ∀ f h, ce o f h = .inl (g.2.2.1, n, .inl f)
def IsJ (g : Gx) (ce : Ce) (o n : Nat) : Prop := ∀ f h, ce o f h = .inl (g.2.2.2.1, n, .inr (.inl h))
def IsII (g : Gx) (ce : Ce) (o n b : Nat) : Prop := ∀ f h, ce o f h = .inl (g.2.2.2.2.1, n, .inr (.inr (.inr (.inr (fun i => if i < n then some (g.2.1 (b + i)) else none)))))
def IsJJ (g : Gx) (ce : Ce) (o n b : Nat) : Prop := ∀ f h, ce o f h = .inl (g.2.2.2.2.2, n, .inr (.inr (.inr (.inr (fun i => if i < n then some (g.2.1 (b + i)) else none)))))
theorem vp_lt {i : Int32} {n : Nat} (h : vp_in i n) : i.toNatClampNeg < n := Nat.not_le.mp fun q => h (Or.inr q)
theorem k_iald (X : Cx g p s m args meth c cc nL own rt) (Y : Hp g N ce A H0 st H locs) (o : Nat) (ho : o < N) {n : Nat} (he : IsI g ce o n) {i : Int32} (hin : vp_in i n) (hdg : decode cc pc = .ok (.iaload, 1))
    (kk : W p l e R s m args below meth c H locs cells slots Q (F0 m (pc + 1) ls (.int (st.1 o i.toNatClampNeg) :: rest))) : W p l e R s m args below meth c H locs cells slots Q (F0 m pc ls (.int i :: .ref (g.2.1 o) :: rest)) := by
  obtain ⟨hx, hb, hml, hown, hts, hN, hK, hlk, hrt⟩ := X
  obtain ⟨hP, hD, hS, hA⟩ := Y
  exact va_iald hx hb hK hP o 0 (wdG_get ho (he _ _)) rfl hin hdg kk
theorem k_lald (X : Cx g p s m args meth c cc nL own rt) (Y : Hp g N ce A H0 st H locs) (o : Nat) (ho : o < N) {n : Nat} (he : IsJ g ce o n) {i : Int32} (hin : vp_in i n) (hdg : decode cc pc = .ok (.laload, 1))
    (kk : W p l e R s m args below meth c H locs cells slots Q (F0 m (pc + 1) ls (.long (st.2 o i.toNatClampNeg) :: rest))) : W p l e R s m args below meth c H locs cells slots Q (F0 m pc ls (.int i :: .ref (g.2.1 o) :: rest)) := by
  obtain ⟨hx, hb, hml, hown, hts, hN, hK, hlk, hrt⟩ := X
  obtain ⟨hP, hD, hS, hA⟩ := Y
  exact va_lald hx hb hK hP o 1 (wdG_get ho (he _ _)) rfl hin hdg kk
theorem k_iast (X : Cx g p s m args meth c cc nL own rt) (Y : Hp g N ce A H0 st H locs) (o : Nat) (ho : o < N) {n : Nat} (he : IsI g ce o n) {i v : Int32} (hin : vp_in i n) (hdg : decode cc pc = .ok (.iastore, 1))
    (kk : ∀ (H1 : Heap) (locs1 : List Loc), Hp g N ce A H0 (sI st o i.toNatClampNeg v) H1 locs1 → W p l e R s m args below meth c H1 locs1 cells slots Q (F0 m (pc + 1) ls rest)) : W p l e R s m args below meth c H locs cells slots Q (F0 m pc ls (.int v :: .int i :: .ref (g.2.1 o) :: rest)) := by
  obtain ⟨hx, hb, hml, hown, hts, hN, hK, hlk, hrt⟩ := X
  obtain ⟨hP, hD, hS, hA⟩ := Y
  refine va_iast hx hb hK hP hD hS o 0 (wdG_get ho (he _ _)) rfl hin hdg (fun H1 locs1 hP1 hD1 hS1 => ?_)
  have hset : (wdG N g.2.1 ce st).set o (g.2.1 o, .inl (g.2.2.1, n, .inl (upd (st.1 o) i.toNatClampNeg v))) = wdG N g.2.1 ce (sI st o i.toNatClampNeg v) := by
    refine wdG_set (fun j hj => ?_) (fun j hj => rfl) ?_
    · simp [sI, va_up, hj]
    · rw [he]; simp [sI, va_up]
  rw [hset] at hP1 hD1
  exact kk H1 locs1 ⟨hP1, hD1, hS1, hA⟩
theorem k_last (X : Cx g p s m args meth c cc nL own rt) (Y : Hp g N ce A H0 st H locs) (o : Nat) (ho : o < N) {n : Nat} (he : IsJ g ce o n) {i : Int32} {v : Int64} (hin : vp_in i n) (hdg : decode cc pc = .ok (.lastore, 1))
    (kk : ∀ (H1 : Heap) (locs1 : List Loc), Hp g N ce A H0 (sJ st o i.toNatClampNeg v) H1 locs1 → W p l e R s m args below meth c H1 locs1 cells slots Q (F0 m (pc + 1) ls rest)) : W p l e R s m args below meth c H locs cells slots Q (F0 m pc ls (.long v :: .int i :: .ref (g.2.1 o) :: rest)) := by
  obtain ⟨hx, hb, hml, hown, hts, hN, hK, hlk, hrt⟩ := X
  obtain ⟨hP, hD, hS, hA⟩ := Y
  refine va_last hx hb hK hP hD hS o 1 (wdG_get ho (he _ _)) rfl hin hdg (fun H1 locs1 hP1 hD1 hS1 => ?_)
  have hset : (wdG N g.2.1 ce st).set o (g.2.1 o, .inl (g.2.2.2.1, n, .inr (.inl (vp_updL (st.2 o) i.toNatClampNeg v)))) = wdG N g.2.1 ce (sJ st o i.toNatClampNeg v) := by
    refine wdG_set (fun j hj => rfl) (fun j hj => ?_) ?_
    · simp [sJ, va_up, hj]
    · rw [he]; simp [sJ, va_up]
  rw [hset] at hP1 hD1
  exact kk H1 locs1 ⟨hP1, hD1, hS1, hA⟩
theorem k_aaldI (X : Cx g p s m args meth c cc nL own rt) (Y : Hp g N ce A H0 st H locs) (o : Nat) (ho : o < N) {n b : Nat} (he : IsII g ce o n b) {i : Int32} (hin : vp_in i n) (hdg : decode cc pc = .ok (.aaload, 1))
    (kk : W p l e R s m args below meth c H locs cells slots Q (F0 m (pc + 1) ls (.ref (g.2.1 (b + i.toNatClampNeg)) :: rest))) : W p l e R s m args below meth c H locs cells slots Q (F0 m pc ls (.int i :: .ref (g.2.1 o) :: rest)) := by
  obtain ⟨hx, hb, hml, hown, hts, hN, hK, hlk, hrt⟩ := X
  obtain ⟨hP, hD, hS, hA⟩ := Y
  have hlt := vp_lt hin
  have hc := hP o _ (wdG_get ho (he _ _))
  refine W.aald (v := va_rf (if i.toNatClampNeg < n then some (g.2.1 (b + i.toNatClampNeg)) else none)) (ty := .array .int) hx hb hc ((hK.2 2 _ rfl).1 n (fun j => va_rf (if j < n then some (g.2.1 (b + j)) else none))) rfl (fun q => by cases q) (by show ¬ (i < 0 ∨ (arrV _ _ _).slots.size ≤ _); rw [arrV_size]; exact hin) (by show (arrV _ _ _).slots[_]? = _; rw [arrV_read _ _ hlt]) rfl rfl hdg ?_
  rw [if_pos hlt]
  exact kk
theorem k_aaldJ (X : Cx g p s m args meth c cc nL own rt) (Y : Hp g N ce A H0 st H locs) (o : Nat) (ho : o < N) {n b : Nat} (he : IsJJ g ce o n b) {i : Int32} (hin : vp_in i n) (hdg : decode cc pc = .ok (.aaload, 1))
    (kk : W p l e R s m args below meth c H locs cells slots Q (F0 m (pc + 1) ls (.ref (g.2.1 (b + i.toNatClampNeg)) :: rest))) : W p l e R s m args below meth c H locs cells slots Q (F0 m pc ls (.int i :: .ref (g.2.1 o) :: rest)) := by
  obtain ⟨hx, hb, hml, hown, hts, hN, hK, hlk, hrt⟩ := X
  obtain ⟨hP, hD, hS, hA⟩ := Y
  have hlt := vp_lt hin
  have hc := hP o _ (wdG_get ho (he _ _))
  refine W.aald (v := va_rf (if i.toNatClampNeg < n then some (g.2.1 (b + i.toNatClampNeg)) else none)) (ty := .array .long) hx hb hc ((hK.2 3 _ rfl).1 n (fun j => va_rf (if j < n then some (g.2.1 (b + j)) else none))) rfl (fun q => by cases q) (by show ¬ (i < 0 ∨ (arrV _ _ _).slots.size ≤ _); rw [arrV_size]; exact hin) (by show (arrV _ _ _).slots[_]? = _; rw [arrV_read _ _ hlt]) rfl rfl hdg ?_
  rw [if_pos hlt]
  exact kk
/-- System.arraycopy from the place o1 to the place o, longs and ints -/
def Cpy (own : String) (idx : Nat) : Prop := Cond.methodLink own idx arraycopyName ∈ TB ∧ Cond.native arraycopyName ∈ TB ∧ Cond.static arraycopyName ∈ TB ∧ Cond.initialized "java/lang/System" ∈ TB
def okC (sp dp n : Int32) (n0 n1 : Nat) : Prop := ¬ sp < 0 ∧ ¬ dp < 0 ∧ ¬ n < 0 ∧ sp.toNatClampNeg + n.toNatClampNeg ≤ n0 ∧ dp.toNatClampNeg + n.toNatClampNeg ≤ n1
theorem k_copyJ (X : Cx g p s m args meth c cc nL own rt) (Y : Hp g N ce A H0 st H locs) {idx : Nat} (hc : Cpy own idx) (hls : ls.size = nL) (o1 o : Nat) (ho1 : o1 < N) (ho : o < N) {n0 n1 : Nat} (he1 : IsJ g ce o1 n0) (he : IsJ g ce o n1) {sp dp n : Int32} (hok : okC sp dp n n0 n1) (hR : 1 ≤ R.frames ∧ (rest.map fun v => v.category).sum + (nativeFrameWords "java/lang/System" "arraycopy" 5 + 11) ≤ R.locals) (hdg : decode cc pc = .ok (.invokestatic idx, 3))
    (kk : ∀ (H1 : Heap) (locs1 : List Loc), Hp g N ce A H0 (sJr st o (va_cpy (st.2 o1) (st.2 o) sp.toNatClampNeg dp.toNatClampNeg n.toNatClampNeg)) H1 locs1 → W p l e R s m args below meth c H1 locs1 cells slots Q (F0 m (pc + 3) ls rest)) : W p l e R s m args below meth c H locs cells slots Q (F0 m pc ls (.int n :: .int dp :: .ref (g.2.1 o) :: .int sp :: .ref (g.2.1 o1) :: rest)) := by
  obtain ⟨hx, hb, hml, hown, hts, hN, hK, hlk, hrt⟩ := X
  obtain ⟨hP, hD, hS, hA⟩ := Y
  obtain ⟨h1, h2, h3, h4⟩ := hc
  obtain ⟨k1, k2, k3, k4, k5⟩ := hok
  refine va_copyl (ty := .long) hx hb (by rw [hml, hls]) hown (hts _ h1) (hts _ h2) (hts _ h3) (hts _ h4) hK hP hD hS o1 o 1 1 (wdG_get ho1 (he1 _ _)) (wdG_get ho (he _ _)) rfl rfl rfl k1 k2 k3 k4 k5 (fun _ _ => rfl) hR.1 hR.2 hdg (fun H1 locs1 hP1 hD1 hS1 => ?_)
  have hset : (wdG N g.2.1 ce st).set o (g.2.1 o, .inl (g.2.2.2.1, n1, .inr (.inl (va_cpy (st.2 o1) (st.2 o) sp.toNatClampNeg dp.toNatClampNeg n.toNatClampNeg)))) = wdG N g.2.1 ce (sJr st o (va_cpy (st.2 o1) (st.2 o) sp.toNatClampNeg dp.toNatClampNeg n.toNatClampNeg)) := by
    refine wdG_set (fun j hj => rfl) (fun j hj => ?_) ?_
    · simp [sJr, va_up, hj]
    · rw [he]; simp [sJr, va_up]
  rw [hset] at hP1 hD1
  exact kk H1 locs1 ⟨hP1, hD1, hS1, hA⟩
theorem k_copyI (X : Cx g p s m args meth c cc nL own rt) (Y : Hp g N ce A H0 st H locs) {idx : Nat} (hc : Cpy own idx) (hls : ls.size = nL) (o1 o : Nat) (ho1 : o1 < N) (ho : o < N) {n0 n1 : Nat} (he1 : IsI g ce o1 n0) (he : IsI g ce o n1) {sp dp n : Int32} (hok : okC sp dp n n0 n1) (hR : 1 ≤ R.frames ∧ (rest.map fun v => v.category).sum + (nativeFrameWords "java/lang/System" "arraycopy" 5 + 11) ≤ R.locals) (hdg : decode cc pc = .ok (.invokestatic idx, 3))
    (kk : ∀ (H1 : Heap) (locs1 : List Loc), Hp g N ce A H0 (sIr st o (va_cpy (st.1 o1) (st.1 o) sp.toNatClampNeg dp.toNatClampNeg n.toNatClampNeg)) H1 locs1 → W p l e R s m args below meth c H1 locs1 cells slots Q (F0 m (pc + 3) ls rest)) : W p l e R s m args below meth c H locs cells slots Q (F0 m pc ls (.int n :: .int dp :: .ref (g.2.1 o) :: .int sp :: .ref (g.2.1 o1) :: rest)) := by
  obtain ⟨hx, hb, hml, hown, hts, hN, hK, hlk, hrt⟩ := X
  obtain ⟨hP, hD, hS, hA⟩ := Y
  obtain ⟨h1, h2, h3, h4⟩ := hc
  obtain ⟨k1, k2, k3, k4, k5⟩ := hok
  refine va_copyi (ty := .int) hx hb (by rw [hml, hls]) hown (hts _ h1) (hts _ h2) (hts _ h3) (hts _ h4) hK hP hD hS o1 o 0 0 (wdG_get ho1 (he1 _ _)) (wdG_get ho (he _ _)) rfl rfl rfl k1 k2 k3 k4 k5 (fun _ _ => rfl) hR.1 hR.2 hdg (fun H1 locs1 hP1 hD1 hS1 => ?_)
  have hset : (wdG N g.2.1 ce st).set o (g.2.1 o, .inl (g.2.2.1, n1, .inl (va_cpy (st.1 o1) (st.1 o) sp.toNatClampNeg dp.toNatClampNeg n.toNatClampNeg))) = wdG N g.2.1 ce (sIr st o (va_cpy (st.1 o1) (st.1 o) sp.toNatClampNeg dp.toNatClampNeg n.toNatClampNeg)) := by
    refine wdG_set (fun j hj => ?_) (fun j hj => rfl) ?_
    · simp [sIr, va_up, hj]
    · rw [he]; simp [sIr, va_up]
  rw [hset] at hP1 hD1
  exact kk H1 locs1 ⟨hP1, hD1, hS1, hA⟩
end KIT
end
section
/-! contracts over the one world; entry, returns, calls -/
def PreW (g : Gx) (N : Nat) (ce : Ce) (st : Sg) (sz : Nat) (U : State) : Prop := U.heap.size = sz ∧ va_P g.1 vwCl (wdG N g.2.1 ce st) U.heap ∧ va_K g.1 vwCl (tysG g) U ∧ va_D (fun _ => True) (wdG N g.2.1 ce st) ∧ ∀ w ∈ NB, va_Nw w U
def PoW (g : Gx) (N : Nat) (ce : Ce) (A : Nat → Prop) (u : Sg) (t : State) : Prop := va_P g.1 vwCl (wdG N g.2.1 ce u) t.heap ∧ va_K g.1 vwCl (tysG g) t ∧ va_D A (wdG N g.2.1 ce u)
def AW (g : Gx) (N : Nat) (ce : Ce) (st : Sg) (sz : Nat) : Nat → Prop := va_A (wdG N g.2.1 ce st) sz
def QI (g : Gx) (N : Nat) (ce : Ce) (A : Nat → Prop) (r : Int32) (st' : Sg) : Array Value → State → Outcome → State → Prop := va_Qi (fun r' u => r' = r ∧ u = st') (PoW g N ce A) A
def QJ (g : Gx) (N : Nat) (ce : Ce) (A : Nat → Prop) (r : Int64) (st' : Sg) : Array Value → State → Outcome → State → Prop := va_Ql (fun r' u => r' = r ∧ u = st') (PoW g N ce A) A
def QV (g : Gx) (N : Nat) (ce : Ce) (A : Nat → Prop) (st' : Sg) : Array Value → State → Outcome → State → Prop := va_Qv (fun u => u = st') (PoW g N ce A) A
def QA (g : Gx) (N : Nat) (ce : Ce) (A : Nat → Prop) (r : Nat) (st' : Sg) : Array Value → State → Outcome → State → Prop := va_Qr (fun u => u = st') (fun u a t => a = g.2.1 r ∧ PoW g N ce A u t) A
def MetI (l : Launch) (y : MethodName) (cc : ByteArray) (maxL : Nat) (rt : Option FieldType) (rm : Room) (g : Gx) (N : Nat) (ce : Ce) (av : List Value) (st : Sg) (r : Int32) (st' : Sg) : Prop := ∀ sz, Met l y (.code y cc maxL rt :: TB) rm (va_Pc av (PreW g N ce st sz)) (QI g N ce (AW g N ce st sz) r st') 0 0 (AW g N ce st sz)
def MetJ (l : Launch) (y : MethodName) (cc : ByteArray) (maxL : Nat) (rt : Option FieldType) (rm : Room) (g : Gx) (N : Nat) (ce : Ce) (av : List Value) (st : Sg) (r : Int64) (st' : Sg) : Prop := ∀ sz, Met l y (.code y cc maxL rt :: TB) rm (va_Pc av (PreW g N ce st sz)) (QJ g N ce (AW g N ce st sz) r st') 0 0 (AW g N ce st sz)
def MetV (l : Launch) (y : MethodName) (cc : ByteArray) (maxL : Nat) (rt : Option FieldType) (rm : Room) (g : Gx) (N : Nat) (ce : Ce) (av : List Value) (st : Sg) (st' : Sg) : Prop := ∀ sz, Met l y (.code y cc maxL rt :: TB) rm (va_Pc av (PreW g N ce st sz)) (QV g N ce (AW g N ce st sz) st') 0 0 (AW g N ce st sz)
def MetA (l : Launch) (y : MethodName) (cc : ByteArray) (maxL : Nat) (rt : Option FieldType) (rm : Room) (g : Gx) (N : Nat) (ce : Ce) (av : List Value) (st : Sg) (r : Nat) (st' : Sg) : Prop := ∀ sz, Met l y (.code y cc maxL rt :: TB) rm (va_Pc av (PreW g N ce st sz)) (QA g N ce (AW g N ce st sz) r st') 0 0 (AW g N ce st sz)
section ENTRY
variable {p : Program} {l : Launch} {e : Env} {R : Room} {s : State} {m : MethodId} {args : Array Value} {below : List Frame} {meth : Method} {c : Code} {H H0 : Heap} {locs : List Loc} {cells slots : Nat} {Q : State → Prop}
variable {cc : ByteArray} {pc nL N : Nat} {ls : Array Slot} {rest : List Value} {g : Gx} {ce : Ce} {A : Nat → Prop} {st st' : Sg} {own : String} {rt : Option FieldType} {o : Nat}
theorem preW_blind (av : List Value) (sz : Nat) : FrameBlind (va_Pc av (PreW g N ce st sz)) := by
  intro a U gf mk q
  obtain ⟨q0, q1, qP, qK, qD, qN⟩ := q
  exact ⟨q0, q1, qP, va_K.moved (u := U) (U := U.calling gf mk a) (Vm.Alike.refl U.vm) qK, qD, nb_same (u := U) (U := U.calling gf mk a) rfl qN⟩
/-- a method's body: from its entry, with the world, the locals, the context -/
theorem met_of {y : MethodName} {maxL : Nat} {rm : Room} {Qc : (Nat → Prop) → Array Value → State → Outcome → State → Prop} {av : List Value} (hy : plainName y.cls = true) (hlen : (lg_sl av).length ≤ maxL)
    (body : ∀ (p : Program) (e : Env) (s : State) (m : MethodId) (below : List Frame) (meth : Method) (c : Code) (A : Nat → Prop) (ls : Array Slot), Cx g p s m av.toArray meth c cc maxL y.cls rt → Hp g N ce A s.heap st s.heap [] → lv_has ls maxL (lv_args 0 av) →
      W p l e rm s m av.toArray below meth c s.heap [] 0 0 (MQ below (Qc A) av.toArray s 0 0 A) (F0 m 0 ls [])) : ∀ sz, Met l y (.code y cc maxL rt :: TB) rm (va_Pc av (PreW g N ce st sz)) (Qc (AW g N ce st sz)) 0 0 (AW g N ce st sz) := by
  intro sz
  refine Met.ofW (cc := cc) (maxL := maxL) (ret := rt) hy rfl ?_
  intro p e s m args below meth c s₁ B hml hv
  obtain ⟨rfl, hsz, hP, hK, hD0, hN⟩ := hv
  have hts := atoms_spec (ws := .code y cc maxL rt :: TB) B.pre
  subst hsz
  have hl := lv_entry av (n := maxL) hlen
  rw [lg_entry_eq]
  generalize (lg_sl av ++ List.replicate (maxL - (lg_sl av).length) Slot.unset).toArray = ls at hl ⊢
  exact body p e s m below meth c (AW g N ce st s.heap.size) ls ⟨B.exec, B.bytes, hml, findClass_of_methodNamed B.named, fun w hw => hts w (List.mem_cons_of_mem _ hw), hN, hK, B.notSynchronized, B.returns⟩
    ⟨hP, hD0.self, va_S.rf, fun q h => Or.inr h⟩ hl
theorem poW_ret (X : Cx g p s m args meth c cc nL own rt) (Y : Hp g N ce A H0 st H locs) {t : State} (ht : t.heap = H) (hW : s.WarmedH t.vm) : PoW g N ce A st t := by
  obtain ⟨hP, hD, hS, hA⟩ := Y
  exact ⟨by rw [ht]; exact hP, va_K.moved hW.alike X.2.2.2.2.2.2.1, hD⟩
theorem k_iret (X : Cx g p s m args meth c cc nL own (some .int)) (Y : Hp g N ce A s.heap st H locs) {r : Int32} (hdg : decode cc pc = .ok (.ireturn, 1)) : W p l e R s m args below meth c H locs 0 0 (MQ below (QI g N ce A r st) args s 0 0 A) (F0 m pc ls [.int r]) :=
  W.iret X.1 X.2.1 X.2.2.2.2.2.2.2.2 (fun t ht hW => ⟨⟨r, st, rfl, ⟨rfl, rfl⟩, poW_ret X Y ht hW⟩, Y.2.2.1.F ht⟩) Y.2.2.1.2.2 hdg X.2.2.2.2.2.2.2.1
theorem nar_b {v : Int32} (h : v = 0 ∨ v = 1) : narrow .boolean (.int v) = .int v := by
  rcases h with rfl | rfl <;> rfl
theorem k_zret (X : Cx g p s m args meth c cc nL own (some .boolean)) (Y : Hp g N ce A s.heap st H locs) {r : Int32} (hr : r = 0 ∨ r = 1) (hdg : decode cc pc = .ok (.ireturn, 1)) : W p l e R s m args below meth c H locs 0 0 (MQ below (QI g N ce A r st) args s 0 0 A) (F0 m pc ls [.int r]) :=
  W.zret X.1 X.2.1 X.2.2.2.2.2.2.2.2 (nar_b hr) (fun t ht hW => ⟨⟨r, st, rfl, ⟨rfl, rfl⟩, poW_ret X Y ht hW⟩, Y.2.2.1.F ht⟩) Y.2.2.1.2.2 hdg X.2.2.2.2.2.2.2.1
theorem k_lret (X : Cx g p s m args meth c cc nL own (some .long)) (Y : Hp g N ce A s.heap st H locs) {r : Int64} (hdg : decode cc pc = .ok (.lreturn, 1)) : W p l e R s m args below meth c H locs 0 0 (MQ below (QJ g N ce A r st) args s 0 0 A) (F0 m pc ls [.long r]) :=
  W.lret X.1 X.2.1 X.2.2.2.2.2.2.2.2 (fun t ht hW => ⟨⟨r, st, rfl, ⟨rfl, rfl⟩, poW_ret X Y ht hW⟩, Y.2.2.1.F ht⟩) Y.2.2.1.2.2 hdg X.2.2.2.2.2.2.2.1
theorem k_vret (X : Cx g p s m args meth c cc nL own none) (Y : Hp g N ce A s.heap st H locs) (hdg : decode cc pc = .ok (.return_, 1)) : W p l e R s m args below meth c H locs 0 0 (MQ below (QV g N ce A st) args s 0 0 A) (F0 m pc ls []) :=
  W.vret X.1 X.2.1 X.2.2.2.2.2.2.2.2 (fun t ht hW => ⟨⟨st, rfl, rfl, poW_ret X Y ht hW⟩, Y.2.2.1.F ht⟩) Y.2.2.1.2.2 hdg X.2.2.2.2.2.2.2.1
theorem k_aret {C : String} (X : Cx g p s m args meth c cc nL own (some (.object C))) (Y : Hp g N ce A s.heap st H locs) {r : Nat} (hdg : decode cc pc = .ok (.areturn, 1)) : W p l e R s m args below meth c H locs 0 0 (MQ below (QA g N ce A r st) args s 0 0 A) (F0 m pc ls [.ref (g.2.1 r)]) :=
  W.aret X.1 X.2.1 X.2.2.2.2.2.2.2.2 (Or.inl ⟨C, rfl⟩) (Or.inr ⟨_, rfl⟩) (fun t ht hW => ⟨⟨st, g.2.1 r, rfl, rfl, rfl, poW_ret X Y ht hW⟩, Y.2.2.1.F ht⟩) Y.2.2.1.2.2 hdg X.2.2.2.2.2.2.2.1
/-- what the tables say of a call: of a receiver's method, of a static one -/
def CalV (own : String) (idx ci : Nat) (y : MethodName) (bytes : ByteArray) (maxL : Nat) (ret : Option FieldType) (n : Nat) : Prop :=
  (vwCl[ci]?.map fun q => q.1) = some y.cls ∧ (y.cls ≠ "java/lang/invoke/MethodHandle" ∧ y.cls ≠ "java/lang/invoke/VarHandle" ∧ (parseMethodDescriptor y.desc).map (fun d => d.parameters.length) = some n) ∧ Cond.code y bytes maxL ret ∈ TB ∧ Cond.instanceMethod y ∈ TB ∧ Cond.selects y.cls y y ∈ TB ∧ Cond.initialized y.cls ∈ TB ∧ Cond.methodLink own idx y ∈ TB
def CalS (own : String) (idx : Nat) (y : MethodName) (bytes : ByteArray) (maxL : Nat) (ret : Option FieldType) (n : Nat) : Prop :=
  (y.cls ≠ "java/lang/invoke/MethodHandle" ∧ y.cls ≠ "java/lang/invoke/VarHandle" ∧ (parseMethodDescriptor y.desc).map (fun d => d.parameters.length) = some n) ∧ Cond.code y bytes maxL ret ∈ TB ∧ Cond.static y ∈ TB ∧ Cond.initialized y.cls ∈ TB ∧ Cond.methodLink own idx y ∈ TB
theorem hp_free (Y : Hp g N ce A H0 st H locs) : ∀ q, AW g N ce st H.size q → A q := by
  obtain ⟨hP, hD, hS, hA⟩ := Y
  intro q h
  rcases h with ⟨k, e, h⟩ | h
  · exact hD.2 k _ h
  · exact hA q (Nat.le_trans hS.1 h)
theorem hp_pre (X : Cx g p s m args meth c cc nL own rt) (Y : Hp g N ce A H0 st H locs) {av : List Value} : ∀ U : State, U.heap = H → s.WarmedH U.vm → va_Pc av (PreW g N ce st H.size) av.toArray U := by
  obtain ⟨hx, hb, hml, hown, hts, hN, hK, hlk, hrt⟩ := X
  obtain ⟨hP, hD, hS, hA⟩ := Y
  intro U hU hW
  exact ⟨rfl, by rw [hU], by rw [hU]; exact hP, va_K.moved hW.alike hK, hD.weaken (fun _ _ _ _ => trivial), nb_warm hW hN⟩
theorem k_runV {y : MethodName} {bytes : ByteArray} {maxL n idx ci : Nat} {ret : Option FieldType} {rm : Room} {Qc : Array Value → State → Outcome → State → Prop} {As stk : List Value} {fs : List Value} (X : Cx g p s m args meth c cc nL own rt) (Y : Hp g N ce A H0 st H locs) (hc : CalV own idx ci y bytes maxL ret n)
    (hM : Met l y (.code y bytes maxL ret :: TB) rm (va_Pc (.ref (g.2.1 o) :: As) (PreW g N ce st H.size)) Qc 0 0 (AW g N ce st H.size)) (hrm : rm.cells = 0 ∧ rm.slots = 0 ∧ rm.frames + 1 ≤ R.frames ∧ 8 + (maxL + 11) + rm.locals ≤ R.locals) (ho : o < N) (he : ce o (st.1 o) (st.2 o) = .inr (ci, fs)) (hn : As.length = n) (hls : ls.size = nL) (hstk : stk = As.reverse ++ .ref (g.2.1 o) :: rest) (hW : (rest.map fun v => v.category).sum ≤ 8) (hdg : decode cc pc = .ok (.invokevirtual idx, 3)) (hf : cells ≤ R.cells ∧ slots ≤ R.slots) :
    va_Run p l e R s m args below meth c H locs cells slots 0 0 (F0 m pc ls stk) rest (Qc (Value.ref (g.2.1 o) :: As).toArray) (AW g N ce st H.size) := by
  obtain ⟨hC, hd, h1, h2, h3, h4, h5⟩ := hc
  obtain ⟨hx, hb, hml, hown, hts, hN, hK, hlk, hrt⟩ := id X
  obtain ⟨q, hq, hqy⟩ := Option.map_eq_some_iff.mp hC
  have hG : GoodIn TB (.code y bytes maxL ret :: TB) := goodIn_tb (fun _ h => h) (fun w h => (List.mem_cons.mp h).elim (fun e => e ▸ h1) id)
  have hrecv := va_recv hK Y.1 hq (wdG_get ho he)
  rw [hqy] at hrecv
  exact va_runV (Ts := TB) (C := y.cls) (b := g.2.1 o) (As := As) ⟨hx, hb, hml, hown, hts⟩ hM ⟨callB_of n hts hG rfl hrm.1 hrm.2.1 (hts _ h4) (hts _ h5) hd hrm.2.2, hts _ h2, hts _ h3⟩ ⟨preW_blind _ _, hrecv, hp_pre X Y⟩ rfl hn hls hstk (lv_room (m := m) (pc := pc) (ls := ls) (rest := stk) hW) hdg ⟨by simpa using hf.1, by simpa using hf.2⟩
theorem k_runS {y : MethodName} {bytes : ByteArray} {maxL n idx : Nat} {ret : Option FieldType} {rm : Room} {Qc : Array Value → State → Outcome → State → Prop} {As stk : List Value} (X : Cx g p s m args meth c cc nL own rt) (Y : Hp g N ce A H0 st H locs) (hc : CalS own idx y bytes maxL ret n)
    (hM : Met l y (.code y bytes maxL ret :: TB) rm (va_Pc As (PreW g N ce st H.size)) Qc 0 0 (AW g N ce st H.size)) (hrm : rm.cells = 0 ∧ rm.slots = 0 ∧ rm.frames + 1 ≤ R.frames ∧ 8 + (maxL + 11) + rm.locals ≤ R.locals) (hn : As.length = n) (hls : ls.size = nL) (hstk : stk = As.reverse ++ rest) (hW : (rest.map fun v => v.category).sum ≤ 8) (hdg : decode cc pc = .ok (.invokestatic idx, 3)) (hf : cells ≤ R.cells ∧ slots ≤ R.slots) :
    va_Run p l e R s m args below meth c H locs cells slots 0 0 (F0 m pc ls stk) rest (Qc As.toArray) (AW g N ce st H.size) := by
  obtain ⟨hd, h1, h2, h4, h5⟩ := hc
  obtain ⟨hx, hb, hml, hown, hts, hN, hK, hlk, hrt⟩ := id X
  have hG : GoodIn TB (.code y bytes maxL ret :: TB) := goodIn_tb (fun _ h => h) (fun w h => (List.mem_cons.mp h).elim (fun e => e ▸ h1) id)
  exact va_runS (Ts := TB) (As := As) ⟨hx, hb, hml, hown, hts⟩ hM ⟨callB_of n hts hG rfl hrm.1 hrm.2.1 (hts _ h4) (hts _ h5) hd hrm.2.2, hts _ h2⟩ ⟨preW_blind _ _, hp_pre X Y⟩ rfl hn hls hstk (lv_room (m := m) (pc := pc) (ls := ls) (rest := stk) hW) hdg ⟨by simpa using hf.1, by simpa using hf.2⟩
theorem k_cI {As : Array Value} {r : Int32} {stk : List Value} (Y : Hp g N ce A H0 st H locs) (hr : va_Run p l e R s m args below meth c H locs cells slots 0 0 (F0 m pc ls stk) rest (QI g N ce (AW g N ce st H.size) r st' As) (AW g N ce st H.size))
    (kk : ∀ (H1 : Heap) (locs1 : List Loc), Hp g N ce A H0 st' H1 locs1 → W p l e R s m args below meth c H1 locs1 cells slots Q (F0 m (pc + 3) ls (.int r :: rest))) : W p l e R s m args below meth c H locs cells slots Q (F0 m pc ls stk) := by
  have hF := hp_free Y
  refine va_calli hr Y.2.2.1 (fun q _ h => hF q h) hF (fun r' u t H1 locs1 ht hvm hw hB hz hk hS => ?_)
  obtain ⟨rfl, rfl⟩ := hw
  obtain ⟨hP1, hK1, hD1⟩ := hB
  rw [ht] at hP1
  exact kk H1 locs1 ⟨hP1, hD1.weaken (fun _ q _ h => hF q.1 h), hS, Y.2.2.2⟩
theorem k_cJ {As : Array Value} {r : Int64} {stk : List Value} (Y : Hp g N ce A H0 st H locs) (hr : va_Run p l e R s m args below meth c H locs cells slots 0 0 (F0 m pc ls stk) rest (QJ g N ce (AW g N ce st H.size) r st' As) (AW g N ce st H.size))
    (kk : ∀ (H1 : Heap) (locs1 : List Loc), Hp g N ce A H0 st' H1 locs1 → W p l e R s m args below meth c H1 locs1 cells slots Q (F0 m (pc + 3) ls (.long r :: rest))) : W p l e R s m args below meth c H locs cells slots Q (F0 m pc ls stk) := by
  have hF := hp_free Y
  refine va_calll hr Y.2.2.1 (fun q _ h => hF q h) hF (fun r' u t H1 locs1 ht hvm hw hB hz hk hS => ?_)
  obtain ⟨rfl, rfl⟩ := hw
  obtain ⟨hP1, hK1, hD1⟩ := hB
  rw [ht] at hP1
  exact kk H1 locs1 ⟨hP1, hD1.weaken (fun _ q _ h => hF q.1 h), hS, Y.2.2.2⟩
theorem k_cV {As : Array Value} {stk : List Value} (Y : Hp g N ce A H0 st H locs) (hr : va_Run p l e R s m args below meth c H locs cells slots 0 0 (F0 m pc ls stk) rest (QV g N ce (AW g N ce st H.size) st' As) (AW g N ce st H.size))
    (kk : ∀ (H1 : Heap) (locs1 : List Loc), Hp g N ce A H0 st' H1 locs1 → W p l e R s m args below meth c H1 locs1 cells slots Q (F0 m (pc + 3) ls rest)) : W p l e R s m args below meth c H locs cells slots Q (F0 m pc ls stk) := by
  have hF := hp_free Y
  refine va_callv hr Y.2.2.1 (fun q _ h => hF q h) hF (fun u t H1 locs1 ht hvm hw hB hz hk hS => ?_)
  subst hw
  obtain ⟨hP1, hK1, hD1⟩ := hB
  rw [ht] at hP1
  exact kk H1 locs1 ⟨hP1, hD1.weaken (fun _ q _ h => hF q.1 h), hS, Y.2.2.2⟩
theorem k_cA {As : Array Value} {r : Nat} {stk : List Value} (Y : Hp g N ce A H0 st H locs) (hr : va_Run p l e R s m args below meth c H locs cells slots 0 0 (F0 m pc ls stk) rest (QA g N ce (AW g N ce st H.size) r st' As) (AW g N ce st H.size))
    (kk : ∀ (H1 : Heap) (locs1 : List Loc), Hp g N ce A H0 st' H1 locs1 → W p l e R s m args below meth c H1 locs1 cells slots Q (F0 m (pc + 3) ls (.ref (g.2.1 r) :: rest))) : W p l e R s m args below meth c H locs cells slots Q (F0 m pc ls stk) := by
  have hF := hp_free Y
  refine va_callr hr Y.2.2.1 (fun q _ h => hF q h) hF (fun u ra t H1 locs1 ht hvm hw hB hz hk hS => ?_)
  subst hw
  obtain ⟨rfl, hP1, hK1, hD1⟩ := hB
  rw [ht] at hP1
  exact kk H1 locs1 ⟨hP1, hD1.weaken (fun _ q _ h => hF q.1 h), hS, Y.2.2.2⟩
/-- Math.max, Math.min -/
def CalMx (own : String) (idx : Nat) : Prop := Cond.methodLink own idx Lib.Math.max.name ∈ TB ∧ Cond.static Lib.Math.max.name ∈ TB ∧ Cond.initialized "java/lang/Math" ∈ TB ∧ Cond.code Lib.Math.max.name Lib.Math.max.code 2 (some .int) ∈ TB
def CalMn (own : String) (idx : Nat) : Prop := Cond.methodLink own idx Lib.Math.min.name ∈ TB ∧ Cond.static Lib.Math.min.name ∈ TB ∧ Cond.initialized "java/lang/Math" ∈ TB ∧ Cond.code Lib.Math.min.name Lib.Math.min.code 2 (some .int) ∈ TB
theorem k_max (X : Cx g p s m args meth c cc nL own rt) {idx : Nat} (hc : CalMx own idx) (hls : ls.size = nL) (hR : 1 ≤ R.frames ∧ (rest.map fun v => v.category).sum + 13 ≤ R.locals) (hf : cells ≤ R.cells ∧ slots ≤ R.slots) {x y : Int32} (hdg : decode cc pc = .ok (.invokestatic idx, 3))
    (kk : W p l e R s m args below meth c H locs cells slots Q (F0 m (pc + 3) ls (.int (if x < y then y else x) :: rest))) : W p l e R s m args below meth c H locs cells slots Q (F0 m pc ls (.int y :: .int x :: rest)) := by
  obtain ⟨hx, hb, hml, hown, hts, hN, hK, hlk, hrt⟩ := X
  obtain ⟨h1, h2, h3, h4⟩ := hc
  exact va_mmax hx hb (by rw [hml, hls]) hown (hts _ h1) (hts _ h2) (hts _ h3) (hts _ h4) hR.1 hR.2 hf.1 hf.2 hdg kk
theorem k_min (X : Cx g p s m args meth c cc nL own rt) {idx : Nat} (hc : CalMn own idx) (hls : ls.size = nL) (hR : 1 ≤ R.frames ∧ (rest.map fun v => v.category).sum + 13 ≤ R.locals) (hf : cells ≤ R.cells ∧ slots ≤ R.slots) {x y : Int32} (hdg : decode cc pc = .ok (.invokestatic idx, 3))
    (kk : W p l e R s m args below meth c H locs cells slots Q (F0 m (pc + 3) ls (.int (if y < x then y else x) :: rest))) : W p l e R s m args below meth c H locs cells slots Q (F0 m pc ls (.int y :: .int x :: rest)) := by
  obtain ⟨hx, hb, hml, hown, hts, hN, hK, hlk, hrt⟩ := X
  obtain ⟨h1, h2, h3, h4⟩ := hc
  exact va_mmin hx hb (by rw [hml, hls]) hown (hts _ h1) (hts _ h2) (hts _ h3) (hts _ h4) hR.1 hR.2 hf.1 hf.2 hdg kk
theorem k_ldc2 (X : Cx g p s m args meth c cc nL own rt) {idx : Nat} {v : Int64} (hc : Cond.constantLong own idx v ∈ TB) (hdg : decode cc pc = .ok (.ldc2_w idx, 3))
    (kk : W p l e R s m args below meth c H locs cells slots Q (F0 m (pc + 3) ls (.long v :: rest))) : W p l e R s m args below meth c H locs cells slots Q (F0 m pc ls rest) :=
  lv_ldc2 X.1 X.2.1 X.2.2.2.1 (X.2.2.2.2.1 _ hc) hdg kk
end ENTRY
end
section
/-! words of the lifted methods, and how they are taken apart -/
def FU : Nat := 4611686018427387904
def nm {α β : Type} (v : β) (k : β → Option α) : Option α := k v
def bnd1 {α β : Type} (o : Option β) (k : β → Option α) : Option α := o.bind k
def bnd2 {α β γ : Type} (o : Option (β × γ)) (k : β → γ → Option α) : Option α := o.bind (fun q => k q.1 q.2)
def cix {α : Type} (i : Int32) (n : Nat) (k : Option α) : Option α := if i < 0 ∨ n ≤ i.toNatClampNeg then none else k
def cnz {α : Type} (y : Int64) (k : Option α) : Option α := if y = 0 then none else k
def cb01 {α : Type} (y : Int32) (k : Option α) : Option α := if y = 0 ∨ y = 1 then k else none
def cpc {α : Type} (sp dp n : Int32) (n0 n1 : Nat) (k : Option α) : Option α := if ¬ sp < 0 ∧ ¬ dp < 0 ∧ ¬ n < 0 ∧ sp.toNatClampNeg + n.toNatClampNeg ≤ n0 ∧ dp.toNatClampNeg + n.toNatClampNeg ≤ n1 then k else none
theorem nm_s {α β : Type} {v : β} {k : β → Option α} {r : α} (h : nm v k = some r) : ∃ x, x = v ∧ k x = some r := ⟨v, rfl, h⟩
theorem bnd1_s {α β : Type} {o : Option β} {k : β → Option α} {r : α} (h : bnd1 o k = some r) : ∃ x, o = some x ∧ k x = some r := by
  cases o with
  | none => cases h
  | some x => exact ⟨x, rfl, h⟩
theorem bnd2_s {α β γ : Type} {o : Option (β × γ)} {k : β → γ → Option α} {r : α} (h : bnd2 o k = some r) : ∃ x y, o = some (x, y) ∧ k x y = some r := by
  cases o with
  | none => cases h
  | some x => exact ⟨x.1, x.2, rfl, h⟩
theorem cix_s {α : Type} {i : Int32} {n : Nat} {k : Option α} {r : α} (h : cix i n k = some r) : vp_in i n ∧ k = some r := by
  unfold cix at h
  split at h
  · cases h
  · rename_i q; exact ⟨q, h⟩
theorem cnz_s {α : Type} {y : Int64} {k : Option α} {r : α} (h : cnz y k = some r) : ¬ y = 0 ∧ k = some r := by
  unfold cnz at h
  split at h
  · cases h
  · rename_i q; exact ⟨q, h⟩
theorem cb01_s {α : Type} {y : Int32} {k : Option α} {r : α} (h : cb01 y k = some r) : (y = 0 ∨ y = 1) ∧ k = some r := by
  unfold cb01 at h
  split at h
  · rename_i q; exact ⟨q, h⟩
  · cases h
theorem cpc_s {α : Type} {sp dp n : Int32} {n0 n1 : Nat} {k : Option α} {r : α} (h : cpc sp dp n n0 n1 k = some r) : okC sp dp n n0 n1 ∧ k = some r := by
  unfold cpc at h
  split at h
  · rename_i q; exact ⟨q, h⟩
  · cases h
theorem ite_t {α : Type} {c : Prop} [Decidable c] {a b : Option α} {r : α} (h : (if c then a else b) = some r) (hc : c) : a = some r := by rwa [if_pos hc] at h
theorem ite_f {α : Type} {c : Prop} [Decidable c] {a b : Option α} {r : α} (h : (if c then a else b) = some r) (hc : ¬ c) : b = some r := by rwa [if_neg hc] at h
theorem none_s {α : Type} {r : α} {P : Prop} (h : (none : Option α) = some r) : P := by cases h
theorem row_lt {i : Int32} {n b N : Nat} (h : vp_in i n) (hb : b + n ≤ N) : b + i.toNatClampNeg < N := by
  have := vp_lt h
  omega
section RET
variable {p : Program} {l : Launch} {e : Env} {R : Room} {s : State} {m : MethodId} {args : Array Value} {below : List Frame} {meth : Method} {c : Code} {H H0 : Heap} {locs : List Loc} {cells slots : Nat} {Q : State → Prop}
variable {cc : ByteArray} {pc nL N : Nat} {ls : Array Slot} {rest : List Value} {g : Gx} {ce : Ce} {A : Nat → Prop} {st st' : Sg} {own : String} {rt : Option FieldType} {o : Nat}
theorem k_nmI {x v : Int32} (ex : x = v) (kk : W p l e R s m args below meth c H locs cells slots Q (F0 m pc ls (.int x :: rest))) : W p l e R s m args below meth c H locs cells slots Q (F0 m pc ls (.int v :: rest)) := by subst ex; exact kk
theorem k_nmJ {x v : Int64} (ex : x = v) (kk : W p l e R s m args below meth c H locs cells slots Q (F0 m pc ls (.long x :: rest))) : W p l e R s m args below meth c H locs cells slots Q (F0 m pc ls (.long v :: rest)) := by subst ex; exact kk
theorem k_nmR {x v : Int32} {f : Int32 → Nat} (ex : x = v) (kk : W p l e R s m args below meth c H locs cells slots Q (F0 m pc ls (.ref (f x) :: rest))) : W p l e R s m args below meth c H locs cells slots Q (F0 m pc ls (.ref (f v) :: rest)) := by subst ex; exact kk
theorem k_iretW (X : Cx g p s m args meth c cc nL own (some .int)) (Y : Hp g N ce A s.heap st H locs) {r v : Int32} (h : some (v, st) = some (r, st')) (hdg : decode cc pc = .ok (.ireturn, 1)) : W p l e R s m args below meth c H locs 0 0 (MQ below (QI g N ce A r st') args s 0 0 A) (F0 m pc ls [.int v]) := by
  cases h; exact k_iret X Y hdg
theorem k_iretR (X : Cx g p s m args meth c cc nL own (some .int)) (Y : Hp g N ce A s.heap st H locs) {r v : Int32} (h : some v = some r) (hdg : decode cc pc = .ok (.ireturn, 1)) : W p l e R s m args below meth c H locs 0 0 (MQ below (QI g N ce A r st) args s 0 0 A) (F0 m pc ls [.int v]) := by
  cases h; exact k_iret X Y hdg
theorem k_zretW (X : Cx g p s m args meth c cc nL own (some .boolean)) (Y : Hp g N ce A s.heap st H locs) {r v : Int32} (hv : v = 0 ∨ v = 1) (h : some (v, st) = some (r, st')) (hdg : decode cc pc = .ok (.ireturn, 1)) : W p l e R s m args below meth c H locs 0 0 (MQ below (QI g N ce A r st') args s 0 0 A) (F0 m pc ls [.int v]) := by
  cases h; exact k_zret X Y hv hdg
theorem k_zretR (X : Cx g p s m args meth c cc nL own (some .boolean)) (Y : Hp g N ce A s.heap st H locs) {r v : Int32} (hv : v = 0 ∨ v = 1) (h : some v = some r) (hdg : decode cc pc = .ok (.ireturn, 1)) : W p l e R s m args below meth c H locs 0 0 (MQ below (QI g N ce A r st) args s 0 0 A) (F0 m pc ls [.int v]) := by
  cases h; exact k_zret X Y hv hdg
theorem k_lretW (X : Cx g p s m args meth c cc nL own (some .long)) (Y : Hp g N ce A s.heap st H locs) {r v : Int64} (h : some (v, st) = some (r, st')) (hdg : decode cc pc = .ok (.lreturn, 1)) : W p l e R s m args below meth c H locs 0 0 (MQ below (QJ g N ce A r st') args s 0 0 A) (F0 m pc ls [.long v]) := by
  cases h; exact k_lret X Y hdg
theorem k_lretR (X : Cx g p s m args meth c cc nL own (some .long)) (Y : Hp g N ce A s.heap st H locs) {r v : Int64} (h : some v = some r) (hdg : decode cc pc = .ok (.lreturn, 1)) : W p l e R s m args below meth c H locs 0 0 (MQ below (QJ g N ce A r st) args s 0 0 A) (F0 m pc ls [.long v]) := by
  cases h; exact k_lret X Y hdg
theorem k_vretW (X : Cx g p s m args meth c cc nL own none) (Y : Hp g N ce A s.heap st H locs) (h : some st = some st') (hdg : decode cc pc = .ok (.return_, 1)) : W p l e R s m args below meth c H locs 0 0 (MQ below (QV g N ce A st') args s 0 0 A) (F0 m pc ls []) := by
  cases h; exact k_vret X Y hdg
theorem k_aretW {C : String} (X : Cx g p s m args meth c cc nL own (some (.object C))) (Y : Hp g N ce A s.heap st H locs) {r v : Nat} (h : some (v, st) = some (r, st')) (hdg : decode cc pc = .ok (.areturn, 1)) : W p l e R s m args below meth c H locs 0 0 (MQ below (QA g N ce A r st') args s 0 0 A) (F0 m pc ls [.ref (g.2.1 v)]) := by
  cases h; exact k_aret X Y hdg
end RET
end
section
/-- the cells of the world X by their places -/
def ceX (g : Gx) : Ce := fun k f h => match k with
  | 0 => .inr (7, [.ref (g.2.1 1), .ref (g.2.1 7), .ref (g.2.1 8), .ref (g.2.1 25), .ref (g.2.1 42), .ref (g.2.1 59), .ref (g.2.1 61), .ref (g.2.1 63), .ref (g.2.1 65), .ref (g.2.1 67), .ref (g.2.1 69), .int (f 11), .int (f 12), .int (f 13)])
  | 1 => .inr (3, [.int (f 0), .int (f 1), .int (f 2), .ref (g.2.1 2), .int (f 4), .ref (g.2.1 3), .ref (g.2.1 4), .ref (g.2.1 5), .ref (g.2.1 6), .int (f 9), .int (f 10)])
  | 2 => .inl (g.2.2.1, 5, .inl f)
  | 3 => .inl (g.2.2.1, 3, .inl f)
  | 4 => .inl (g.2.2.1, 3, .inl f)
  | 5 => .inl (g.2.2.1, 3, .inl f)
  | 6 => .inl (g.2.2.1, 3, .inl f)
  | 7 => .inl (g.2.2.1, 6, .inl f)
  | 8 => .inr (4, [.ref (g.2.1 9), .ref (g.2.1 17), .ref (g.2.1 24)])
  | 9 => .inl (g.2.2.2.2.2, 7, .inr (.inr (.inr (.inr (fun i => if i < 7 then some (g.2.1 (10 + i)) else none)))))
  | 10 => .inl (g.2.2.2.1, 13, .inr (.inl h))
  | 11 => .inl (g.2.2.2.1, 13, .inr (.inl h))
  | 12 => .inl (g.2.2.2.1, 13, .inr (.inl h))
  | 13 => .inl (g.2.2.2.1, 13, .inr (.inl h))
  | 14 => .inl (g.2.2.2.1, 13, .inr (.inl h))
  | 15 => .inl (g.2.2.2.1, 13, .inr (.inl h))
  | 16 => .inl (g.2.2.2.1, 13, .inr (.inl h))
  | 17 => .inl (g.2.2.2.2.1, 6, .inr (.inr (.inr (.inr (fun i => if i < 6 then some (g.2.1 (18 + i)) else none)))))
  | 18 => .inl (g.2.2.1, 13, .inl f)
  | 19 => .inl (g.2.2.1, 13, .inl f)
  | 20 => .inl (g.2.2.1, 13, .inl f)
  | 21 => .inl (g.2.2.1, 13, .inl f)
  | 22 => .inl (g.2.2.1, 13, .inl f)
  | 23 => .inl (g.2.2.1, 13, .inl f)
  | 24 => .inl (g.2.2.2.1, 13, .inr (.inl h))
  | 25 => .inr (4, [.ref (g.2.1 26), .ref (g.2.1 34), .ref (g.2.1 41)])
  | 26 => .inl (g.2.2.2.2.2, 7, .inr (.inr (.inr (.inr (fun i => if i < 7 then some (g.2.1 (27 + i)) else none)))))
  | 27 => .inl (g.2.2.2.1, 13, .inr (.inl h))
  | 28 => .inl (g.2.2.2.1, 13, .inr (.inl h))
  | 29 => .inl (g.2.2.2.1, 13, .inr (.inl h))
  | 30 => .inl (g.2.2.2.1, 13, .inr (.inl h))
  | 31 => .inl (g.2.2.2.1, 13, .inr (.inl h))
  | 32 => .inl (g.2.2.2.1, 13, .inr (.inl h))
  | 33 => .inl (g.2.2.2.1, 13, .inr (.inl h))
  | 34 => .inl (g.2.2.2.2.1, 6, .inr (.inr (.inr (.inr (fun i => if i < 6 then some (g.2.1 (35 + i)) else none)))))
  | 35 => .inl (g.2.2.1, 13, .inl f)
  | 36 => .inl (g.2.2.1, 13, .inl f)
  | 37 => .inl (g.2.2.1, 13, .inl f)
  | 38 => .inl (g.2.2.1, 13, .inl f)
  | 39 => .inl (g.2.2.1, 13, .inl f)
  | 40 => .inl (g.2.2.1, 13, .inl f)
  | 41 => .inl (g.2.2.2.1, 13, .inr (.inl h))
  | 42 => .inr (6, [.ref (g.2.1 43), .ref (g.2.1 51), .ref (g.2.1 52)])
  | 43 => .inl (g.2.2.2.2.2, 7, .inr (.inr (.inr (.inr (fun i => if i < 7 then some (g.2.1 (44 + i)) else none)))))
  | 44 => .inl (g.2.2.2.1, 13, .inr (.inl h))
  | 45 => .inl (g.2.2.2.1, 13, .inr (.inl h))
  | 46 => .inl (g.2.2.2.1, 13, .inr (.inl h))
  | 47 => .inl (g.2.2.2.1, 13, .inr (.inl h))
  | 48 => .inl (g.2.2.2.1, 13, .inr (.inl h))
  | 49 => .inl (g.2.2.2.1, 13, .inr (.inl h))
  | 50 => .inl (g.2.2.2.1, 13, .inr (.inl h))
  | 51 => .inl (g.2.2.2.1, 7, .inr (.inl h))
  | 52 => .inl (g.2.2.2.2.1, 6, .inr (.inr (.inr (.inr (fun i => if i < 6 then some (g.2.1 (53 + i)) else none)))))
  | 53 => .inl (g.2.2.1, 3, .inl f)
  | 54 => .inl (g.2.2.1, 3, .inl f)
  | 55 => .inl (g.2.2.1, 3, .inl f)
  | 56 => .inl (g.2.2.1, 3, .inl f)
  | 57 => .inl (g.2.2.1, 3, .inl f)
  | 58 => .inl (g.2.2.1, 3, .inl f)
  | 59 => .inr (0, [.ref (g.2.1 60)])
  | 60 => .inl (g.2.2.1, 6, .inl f)
  | 61 => .inr (1, [.ref (g.2.1 62), .long (h 1)])
  | 62 => .inl (g.2.2.1, 6, .inl f)
  | 63 => .inr (1, [.ref (g.2.1 64), .long (h 1)])
  | 64 => .inl (g.2.2.1, 6, .inl f)
  | 65 => .inr (1, [.ref (g.2.1 66), .long (h 1)])
  | 66 => .inl (g.2.2.1, 6, .inl f)
  | 67 => .inr (5, [.ref (g.2.1 68), .int (f 1)])
  | 68 => .inl (g.2.2.1, 40, .inl f)
  | 69 => .inr (2, [.int (f 0), .int (f 1), .ref (g.2.1 70), .ref (g.2.1 71), .ref (g.2.1 72), .ref (g.2.1 73), .int (f 6)])
  | 70 => .inl (g.2.2.1, 6, .inl f)
  | 71 => .inl (g.2.2.1, 6, .inl f)
  | 72 => .inl (g.2.2.1, 6, .inl f)
  | 73 => .inl (g.2.2.1, 6, .inl f)
  | _ => .inr (0, [])
abbrev nwX : Nat := 74
theorem rowX_10 {g : Gx} : ∀ d, d < 7 → IsJ g (ceX g) (10 + d) 13
  | 0, _ => fun _ _ => rfl
  | 1, _ => fun _ _ => rfl
  | 2, _ => fun _ _ => rfl
  | 3, _ => fun _ _ => rfl
  | 4, _ => fun _ _ => rfl
  | 5, _ => fun _ _ => rfl
  | 6, _ => fun _ _ => rfl
  | n + 7, hn => absurd hn (by omega)
theorem rowX_18 {g : Gx} : ∀ d, d < 6 → IsI g (ceX g) (18 + d) 13
  | 0, _ => fun _ _ => rfl
  | 1, _ => fun _ _ => rfl
  | 2, _ => fun _ _ => rfl
  | 3, _ => fun _ _ => rfl
  | 4, _ => fun _ _ => rfl
  | 5, _ => fun _ _ => rfl
  | n + 6, hn => absurd hn (by omega)
theorem rowX_27 {g : Gx} : ∀ d, d < 7 → IsJ g (ceX g) (27 + d) 13
  | 0, _ => fun _ _ => rfl
  | 1, _ => fun _ _ => rfl
  | 2, _ => fun _ _ => rfl
  | 3, _ => fun _ _ => rfl
  | 4, _ => fun _ _ => rfl
  | 5, _ => fun _ _ => rfl
  | 6, _ => fun _ _ => rfl
  | n + 7, hn => absurd hn (by omega)
theorem rowX_35 {g : Gx} : ∀ d, d < 6 → IsI g (ceX g) (35 + d) 13
  | 0, _ => fun _ _ => rfl
  | 1, _ => fun _ _ => rfl
  | 2, _ => fun _ _ => rfl
  | 3, _ => fun _ _ => rfl
  | 4, _ => fun _ _ => rfl
  | 5, _ => fun _ _ => rfl
  | n + 6, hn => absurd hn (by omega)
theorem rowX_44 {g : Gx} : ∀ d, d < 7 → IsJ g (ceX g) (44 + d) 13
  | 0, _ => fun _ _ => rfl
  | 1, _ => fun _ _ => rfl
  | 2, _ => fun _ _ => rfl
  | 3, _ => fun _ _ => rfl
  | 4, _ => fun _ _ => rfl
  | 5, _ => fun _ _ => rfl
  | 6, _ => fun _ _ => rfl
  | n + 7, hn => absurd hn (by omega)
theorem rowX_53 {g : Gx} : ∀ d, d < 6 → IsI g (ceX g) (53 + d) 3
  | 0, _ => fun _ _ => rfl
  | 1, _ => fun _ _ => rfl
  | 2, _ => fun _ _ => rfl
  | 3, _ => fun _ _ => rfl
  | 4, _ => fun _ _ => rfl
  | 5, _ => fun _ _ => rfl
  | n + 6, hn => absurd hn (by omega)
/-- the cells of the world M by their places -/
def ceM (g : Gx) : Ce := fun k f h => match k with
  | 0 => .inr (8, [.int (f 0), .int (f 1), .int (f 2), .ref (g.2.1 1), .int (f 4), .ref (g.2.1 2), .ref (g.2.1 3), .ref (g.2.1 4), .ref (g.2.1 5), .int (f 9), .ref (g.2.1 6), .ref (g.2.1 7), .long (h 12), .ref (g.2.1 8), .ref (g.2.1 9), .ref (g.2.1 10), .ref (g.2.1 11), .ref (g.2.1 12), .ref (g.2.1 13), .ref (g.2.1 14), .int (f 20), .ref (g.2.1 15), .ref (g.2.1 16), .ref (g.2.1 17), .ref (g.2.1 18), .int (f 25), .int (f 26), .ref (g.2.1 19), .ref (g.2.1 20)])
  | 1 => .inl (g.2.2.1, 5, .inl f)
  | 2 => .inl (g.2.2.1, 3, .inl f)
  | 3 => .inl (g.2.2.1, 3, .inl f)
  | 4 => .inl (g.2.2.1, 3, .inl f)
  | 5 => .inl (g.2.2.1, 3, .inl f)
  | 6 => .inl (g.2.2.1, 6, .inl f)
  | 7 => .inl (g.2.2.2.1, 13, .inr (.inl h))
  | 8 => .inl (g.2.2.2.1, 91, .inr (.inl h))
  | 9 => .inl (g.2.2.1, 78, .inl f)
  | 10 => .inl (g.2.2.2.1, 13, .inr (.inl h))
  | 11 => .inl (g.2.2.1, 6, .inl f)
  | 12 => .inl (g.2.2.2.1, 13, .inr (.inl h))
  | 13 => .inl (g.2.2.1, 6, .inl f)
  | 14 => .inl (g.2.2.1, 40, .inl f)
  | 15 => .inl (g.2.2.1, 8, .inl f)
  | 16 => .inl (g.2.2.1, 8, .inl f)
  | 17 => .inl (g.2.2.1, 8, .inl f)
  | 18 => .inl (g.2.2.1, 8, .inl f)
  | 19 => .inl (g.2.2.2.1, 13, .inr (.inl h))
  | 20 => .inl (g.2.2.2.1, 13, .inr (.inl h))
  | _ => .inr (0, [])
abbrev nwM : Nat := 21
theorem inT_0 : ∀ w ∈ u_ws RX0 TX0 1, w ∈ TB := by decide +kernel
theorem inT_1 : ∀ w ∈ u_ws RX1 TX1 2, w ∈ TB := by decide +kernel
theorem inT_2 : ∀ w ∈ u_ws RX2 TX2 7, w ∈ TB := by decide +kernel
theorem inT_3 : ∀ w ∈ u_ws RX3 TX3 11, w ∈ TB := by decide +kernel
theorem inT_4 : ∀ w ∈ u_ws RX4 TX4 3, w ∈ TB := by decide +kernel
theorem inT_5 : ∀ w ∈ u_ws RX5 TX5 2, w ∈ TB := by decide +kernel
theorem inT_6 : ∀ w ∈ u_ws RX6 TX6 3, w ∈ TB := by decide +kernel
theorem inT_7 : ∀ w ∈ u_ws RX7 TX7 14, w ∈ TB := by decide +kernel
theorem inT_8 : ∀ w ∈ u_ws RX8 TX8 29, w ∈ TB := by decide +kernel
theorem cl_1_21 : Cpy RX1 21 := ⟨tb_in (n := 428) (by decide +kernel) rfl, tb_in (n := 317) (by decide +kernel) rfl, tb_in (n := 316) (by decide +kernel) rfl, tb_in (n := 11) (by decide +kernel) rfl⟩
theorem cl_2_43 : CalS RX2 43 yX5_isFact cX5_isFact 1 (some .boolean) 1 := ⟨⟨by decide +kernel, by decide +kernel, by decide +kernel⟩, tb_in (n := 496) (by decide +kernel) rfl, tb_in (n := 495) (by decide +kernel) rfl, tb_in (n := 7) (by decide +kernel) rfl, tb_in (n := 514) (by decide +kernel) rfl⟩
theorem cl_2_47 : CalV RX2 47 2 yX2_readInClause cX2_readInClause 3 none 2 := ⟨by decide +kernel, ⟨by decide +kernel, by decide +kernel, by decide +kernel⟩, tb_in (n := 518) (by decide +kernel) rfl, tb_in (n := 517) (by decide +kernel) rfl, tb_sel (n := 17) (by decide +kernel) rfl, tb_in (n := 8) (by decide +kernel) rfl, tb_in (n := 515) (by decide +kernel) rfl⟩
theorem cl_2_51 : CalS RX2 51 yX5_follow cX5_follow 2 (some .int) 2 := ⟨⟨by decide +kernel, by decide +kernel, by decide +kernel⟩, tb_in (n := 493) (by decide +kernel) rfl, tb_in (n := 492) (by decide +kernel) rfl, tb_in (n := 7) (by decide +kernel) rfl, tb_in (n := 520) (by decide +kernel) rfl⟩
theorem cl_2_55 : CalS RX2 55 yX5_isDigit cX5_isDigit 1 (some .boolean) 1 := ⟨⟨by decide +kernel, by decide +kernel, by decide +kernel⟩, tb_in (n := 505) (by decide +kernel) rfl, tb_in (n := 504) (by decide +kernel) rfl, tb_in (n := 7) (by decide +kernel) rfl, tb_in (n := 519) (by decide +kernel) rfl⟩
theorem cl_2_58 : CalV RX2 58 2 yX2_isSo cX2_isSo 3 (some .boolean) 2 := ⟨by decide +kernel, ⟨by decide +kernel, by decide +kernel, by decide +kernel⟩, tb_in (n := 536) (by decide +kernel) rfl, tb_in (n := 535) (by decide +kernel) rfl, tb_sel (n := 19) (by decide +kernel) rfl, tb_in (n := 8) (by decide +kernel) rfl, tb_in (n := 533) (by decide +kernel) rfl⟩
theorem cl_2_62 : CalMn RX2 62 := ⟨tb_in (n := 537) (by decide +kernel) rfl, tb_in (n := 538) (by decide +kernel) rfl, tb_in (n := 10) (by decide +kernel) rfl, tb_in (n := 539) (by decide +kernel) rfl⟩
theorem cl_3_46 : CalV RX3 46 3 yX3_isWaiting cX3_isWaiting 2 (some .boolean) 1 := ⟨by decide +kernel, ⟨by decide +kernel, by decide +kernel, by decide +kernel⟩, tb_in (n := 271) (by decide +kernel) rfl, tb_in (n := 269) (by decide +kernel) rfl, tb_in (n := 270) (by decide +kernel) rfl, tb_in (n := 2) (by decide +kernel) rfl, tb_in (n := 268) (by decide +kernel) rfl⟩
theorem cl_3_50 : CalMx RX3 50 := ⟨tb_in (n := 280) (by decide +kernel) rfl, tb_in (n := 281) (by decide +kernel) rfl, tb_in (n := 10) (by decide +kernel) rfl, tb_in (n := 282) (by decide +kernel) rfl⟩
theorem cl_3_56 : CalV RX3 56 3 yX3_worthOn cX3_worthOn 3 (some .int) 2 := ⟨by decide +kernel, ⟨by decide +kernel, by decide +kernel, by decide +kernel⟩, tb_in (n := 279) (by decide +kernel) rfl, tb_in (n := 277) (by decide +kernel) rfl, tb_in (n := 278) (by decide +kernel) rfl, tb_in (n := 2) (by decide +kernel) rfl, tb_in (n := 322) (by decide +kernel) rfl⟩
theorem cl_4_25 : CalV RX4 25 2 yX2_numberFor cX2_numberFor 6 (some .int) 3 := ⟨by decide +kernel, ⟨by decide +kernel, by decide +kernel, by decide +kernel⟩, tb_in (n := 532) (by decide +kernel) rfl, tb_in (n := 530) (by decide +kernel) rfl, tb_in (n := 531) (by decide +kernel) rfl, tb_in (n := 8) (by decide +kernel) rfl, tb_in (n := 552) (by decide +kernel) rfl⟩
theorem cl_4_31 : CalV RX4 31 4 yX4_fillEnd cX4_fillEnd 3 none 1 := ⟨by decide +kernel, ⟨by decide +kernel, by decide +kernel, by decide +kernel⟩, tb_in (n := 362) (by decide +kernel) rfl, tb_in (n := 361) (by decide +kernel) rfl, tb_sel (n := 6) (by decide +kernel) rfl, tb_in (n := 3) (by decide +kernel) rfl, tb_in (n := 359) (by decide +kernel) rfl⟩
theorem cl_4_44 : CalV RX4 44 4 yX4_rowFor cX4_rowFor 7 none 3 := ⟨by decide +kernel, ⟨by decide +kernel, by decide +kernel, by decide +kernel⟩, tb_in (n := 366) (by decide +kernel) rfl, tb_in (n := 365) (by decide +kernel) rfl, tb_sel (n := 7) (by decide +kernel) rfl, tb_in (n := 3) (by decide +kernel) rfl, tb_in (n := 363) (by decide +kernel) rfl⟩
theorem cl_4_48 : CalV RX4 48 4 yX4_takeAsked cX4_takeAsked 4 none 2 := ⟨by decide +kernel, ⟨by decide +kernel, by decide +kernel, by decide +kernel⟩, tb_in (n := 464) (by decide +kernel) rfl, tb_in (n := 463) (by decide +kernel) rfl, tb_sel (n := 16) (by decide +kernel) rfl, tb_in (n := 3) (by decide +kernel) rfl, tb_in (n := 461) (by decide +kernel) rfl⟩
theorem cl_4_52 : CalV RX4 52 4 yX4_takeGreater cX4_takeGreater 4 none 2 := ⟨by decide +kernel, ⟨by decide +kernel, by decide +kernel, by decide +kernel⟩, tb_in (n := 378) (by decide +kernel) rfl, tb_in (n := 377) (by decide +kernel) rfl, tb_sel (n := 9) (by decide +kernel) rfl, tb_in (n := 3) (by decide +kernel) rfl, tb_in (n := 375) (by decide +kernel) rfl⟩
theorem cl_4_58 : Cpy RX4 58 := ⟨tb_in (n := 367) (by decide +kernel) rfl, tb_in (n := 317) (by decide +kernel) rfl, tb_in (n := 316) (by decide +kernel) rfl, tb_in (n := 11) (by decide +kernel) rfl⟩
theorem cl_4_64 : CalV RX4 64 3 yX3_scale cX3_scale 2 (some .long) 1 := ⟨by decide +kernel, ⟨by decide +kernel, by decide +kernel, by decide +kernel⟩, tb_in (n := 335) (by decide +kernel) rfl, tb_in (n := 333) (by decide +kernel) rfl, tb_in (n := 334) (by decide +kernel) rfl, tb_in (n := 2) (by decide +kernel) rfl, tb_in (n := 368) (by decide +kernel) rfl⟩
theorem cl_4_71 : CalV RX4 71 3 yX3_chanceToBuy cX3_chanceToBuy 4 (some .int) 3 := ⟨by decide +kernel, ⟨by decide +kernel, by decide +kernel, by decide +kernel⟩, tb_in (n := 321) (by decide +kernel) rfl, tb_in (n := 319) (by decide +kernel) rfl, tb_in (n := 320) (by decide +kernel) rfl, tb_in (n := 2) (by decide +kernel) rfl, tb_in (n := 369) (by decide +kernel) rfl⟩
theorem cl_4_78 : CalV RX4 78 4 yX4_backByBuyer cX4_backByBuyer 5 none 2 := ⟨by decide +kernel, ⟨by decide +kernel, by decide +kernel, by decide +kernel⟩, tb_in (n := 373) (by decide +kernel) rfl, tb_in (n := 372) (by decide +kernel) rfl, tb_sel (n := 8) (by decide +kernel) rfl, tb_in (n := 3) (by decide +kernel) rfl, tb_in (n := 370) (by decide +kernel) rfl⟩
theorem cl_5_19 : CalS RX5 19 yX5_follow cX5_follow 2 (some .int) 2 := ⟨⟨by decide +kernel, by decide +kernel, by decide +kernel⟩, tb_in (n := 493) (by decide +kernel) rfl, tb_in (n := 492) (by decide +kernel) rfl, tb_in (n := 7) (by decide +kernel) rfl, tb_in (n := 491) (by decide +kernel) rfl⟩
theorem cl_5_23 : CalS RX5 23 yX5_isFact cX5_isFact 1 (some .boolean) 1 := ⟨⟨by decide +kernel, by decide +kernel, by decide +kernel⟩, tb_in (n := 496) (by decide +kernel) rfl, tb_in (n := 495) (by decide +kernel) rfl, tb_in (n := 7) (by decide +kernel) rfl, tb_in (n := 494) (by decide +kernel) rfl⟩
theorem cl_5_27 : CalS RX5 27 yX5_isPriceDigit cX5_isPriceDigit 1 (some .boolean) 1 := ⟨⟨by decide +kernel, by decide +kernel, by decide +kernel⟩, tb_in (n := 499) (by decide +kernel) rfl, tb_in (n := 498) (by decide +kernel) rfl, tb_in (n := 7) (by decide +kernel) rfl, tb_in (n := 497) (by decide +kernel) rfl⟩
theorem cl_5_30 : CalS RX5 30 yX5_isCompare cX5_isCompare 1 (some .boolean) 1 := ⟨⟨by decide +kernel, by decide +kernel, by decide +kernel⟩, tb_in (n := 502) (by decide +kernel) rfl, tb_in (n := 501) (by decide +kernel) rfl, tb_in (n := 7) (by decide +kernel) rfl, tb_in (n := 500) (by decide +kernel) rfl⟩
theorem cl_5_33 : CalS RX5 33 yX5_isDigit cX5_isDigit 1 (some .boolean) 1 := ⟨⟨by decide +kernel, by decide +kernel, by decide +kernel⟩, tb_in (n := 505) (by decide +kernel) rfl, tb_in (n := 504) (by decide +kernel) rfl, tb_in (n := 7) (by decide +kernel) rfl, tb_in (n := 503) (by decide +kernel) rfl⟩
theorem cl_6_25 : CalV RX6 25 6 yX6_begin cX6_begin 3 none 1 := ⟨by decide +kernel, ⟨by decide +kernel, by decide +kernel, by decide +kernel⟩, tb_in (n := 310) (by decide +kernel) rfl, tb_in (n := 309) (by decide +kernel) rfl, tb_sel (n := 1) (by decide +kernel) rfl, tb_in (n := 4) (by decide +kernel) rfl, tb_in (n := 307) (by decide +kernel) rfl⟩
theorem cl_6_35 : CalV RX6 35 6 yX6_openDay cX6_openDay 2 none 1 := ⟨by decide +kernel, ⟨by decide +kernel, by decide +kernel, by decide +kernel⟩, tb_in (n := 314) (by decide +kernel) rfl, tb_in (n := 313) (by decide +kernel) rfl, tb_sel (n := 2) (by decide +kernel) rfl, tb_in (n := 4) (by decide +kernel) rfl, tb_in (n := 311) (by decide +kernel) rfl⟩
theorem cl_6_42 : CalV RX6 42 3 yX3_chanceToBuy cX3_chanceToBuy 4 (some .int) 3 := ⟨by decide +kernel, ⟨by decide +kernel, by decide +kernel, by decide +kernel⟩, tb_in (n := 321) (by decide +kernel) rfl, tb_in (n := 319) (by decide +kernel) rfl, tb_in (n := 320) (by decide +kernel) rfl, tb_in (n := 2) (by decide +kernel) rfl, tb_in (n := 318) (by decide +kernel) rfl⟩
theorem cl_6_50 : CalV RX6 50 6 yX6_passBuyer cX6_passBuyer 10 none 3 := ⟨by decide +kernel, ⟨by decide +kernel, by decide +kernel, by decide +kernel⟩, tb_in (n := 326) (by decide +kernel) rfl, tb_in (n := 325) (by decide +kernel) rfl, tb_sel (n := 3) (by decide +kernel) rfl, tb_in (n := 4) (by decide +kernel) rfl, tb_in (n := 323) (by decide +kernel) rfl⟩
theorem cl_6_54 : CalV RX6 54 6 yX6_pickAll cX6_pickAll 5 none 2 := ⟨by decide +kernel, ⟨by decide +kernel, by decide +kernel, by decide +kernel⟩, tb_in (n := 414) (by decide +kernel) rfl, tb_in (n := 413) (by decide +kernel) rfl, tb_sel (n := 12) (by decide +kernel) rfl, tb_in (n := 4) (by decide +kernel) rfl, tb_in (n := 411) (by decide +kernel) rfl⟩
theorem cl_6_58 : CalV RX6 58 6 yX6_passThoseOf cX6_passThoseOf 6 none 4 := ⟨by decide +kernel, ⟨by decide +kernel, by decide +kernel, by decide +kernel⟩, tb_in (n := 423) (by decide +kernel) rfl, tb_in (n := 422) (by decide +kernel) rfl, tb_sel (n := 13) (by decide +kernel) rfl, tb_in (n := 4) (by decide +kernel) rfl, tb_in (n := 420) (by decide +kernel) rfl⟩
theorem cl_6_68 : Cpy RX6 68 := ⟨tb_in (n := 315) (by decide +kernel) rfl, tb_in (n := 317) (by decide +kernel) rfl, tb_in (n := 316) (by decide +kernel) rfl, tb_in (n := 11) (by decide +kernel) rfl⟩
theorem cl_6_74 : CalV RX6 74 3 yX3_isWaiting cX3_isWaiting 2 (some .boolean) 1 := ⟨by decide +kernel, ⟨by decide +kernel, by decide +kernel, by decide +kernel⟩, tb_in (n := 271) (by decide +kernel) rfl, tb_in (n := 269) (by decide +kernel) rfl, tb_in (n := 270) (by decide +kernel) rfl, tb_in (n := 2) (by decide +kernel) rfl, tb_in (n := 415) (by decide +kernel) rfl⟩
theorem cl_6_78 : CalV RX6 78 3 yX3_dayPicked cX3_dayPicked 8 (some .int) 3 := ⟨by decide +kernel, ⟨by decide +kernel, by decide +kernel, by decide +kernel⟩, tb_in (n := 419) (by decide +kernel) rfl, tb_in (n := 417) (by decide +kernel) rfl, tb_in (n := 418) (by decide +kernel) rfl, tb_in (n := 2) (by decide +kernel) rfl, tb_in (n := 416) (by decide +kernel) rfl⟩
theorem cl_7_118 : CalV RX7 118 3 yX3_isSort cX3_isSort 2 (some .boolean) 1 := ⟨by decide +kernel, ⟨by decide +kernel, by decide +kernel, by decide +kernel⟩, tb_in (n := 263) (by decide +kernel) rfl, tb_in (n := 261) (by decide +kernel) rfl, tb_in (n := 262) (by decide +kernel) rfl, tb_in (n := 2) (by decide +kernel) rfl, tb_in (n := 260) (by decide +kernel) rfl⟩
theorem cl_7_122 : CalV RX7 122 3 yX3_waitTold cX3_waitTold 2 (some .int) 1 := ⟨by decide +kernel, ⟨by decide +kernel, by decide +kernel, by decide +kernel⟩, tb_in (n := 267) (by decide +kernel) rfl, tb_in (n := 265) (by decide +kernel) rfl, tb_in (n := 266) (by decide +kernel) rfl, tb_in (n := 2) (by decide +kernel) rfl, tb_in (n := 264) (by decide +kernel) rfl⟩
theorem cl_7_126 : CalV RX7 126 3 yX3_worthOn cX3_worthOn 3 (some .int) 2 := ⟨by decide +kernel, ⟨by decide +kernel, by decide +kernel, by decide +kernel⟩, tb_in (n := 279) (by decide +kernel) rfl, tb_in (n := 277) (by decide +kernel) rfl, tb_in (n := 278) (by decide +kernel) rfl, tb_in (n := 2) (by decide +kernel) rfl, tb_in (n := 276) (by decide +kernel) rfl⟩
theorem cl_7_130 : CalV RX7 130 3 yX3_isPrice cX3_isPrice 2 (some .boolean) 1 := ⟨by decide +kernel, ⟨by decide +kernel, by decide +kernel, by decide +kernel⟩, tb_in (n := 290) (by decide +kernel) rfl, tb_in (n := 288) (by decide +kernel) rfl, tb_in (n := 289) (by decide +kernel) rfl, tb_in (n := 2) (by decide +kernel) rfl, tb_in (n := 287) (by decide +kernel) rfl⟩
theorem cl_7_133 : CalS RX7 133 yX7_isPart cX7_isPart 1 (some .boolean) 1 := ⟨⟨by decide +kernel, by decide +kernel, by decide +kernel⟩, tb_in (n := 297) (by decide +kernel) rfl, tb_in (n := 296) (by decide +kernel) rfl, tb_in (n := 1) (by decide +kernel) rfl, tb_in (n := 295) (by decide +kernel) rfl⟩
theorem cl_7_136 : CalV RX7 136 7 yX7_refusalOf cX7_refusalOf 2 (some .int) 1 := ⟨by decide +kernel, ⟨by decide +kernel, by decide +kernel, by decide +kernel⟩, tb_in (n := 301) (by decide +kernel) rfl, tb_in (n := 300) (by decide +kernel) rfl, tb_sel (n := 0) (by decide +kernel) rfl, tb_in (n := 1) (by decide +kernel) rfl, tb_in (n := 298) (by decide +kernel) rfl⟩
theorem cl_7_142 : CalV RX7 142 6 yX6_goByPlan cX6_goByPlan 6 none 3 := ⟨by decide +kernel, ⟨by decide +kernel, by decide +kernel, by decide +kernel⟩, tb_in (n := 306) (by decide +kernel) rfl, tb_in (n := 304) (by decide +kernel) rfl, tb_in (n := 305) (by decide +kernel) rfl, tb_in (n := 4) (by decide +kernel) rfl, tb_in (n := 303) (by decide +kernel) rfl⟩
theorem cl_7_146 : CalV RX7 146 6 yX6_mean cX6_mean 5 (some .long) 1 := ⟨by decide +kernel, ⟨by decide +kernel, by decide +kernel, by decide +kernel⟩, tb_in (n := 331) (by decide +kernel) rfl, tb_in (n := 329) (by decide +kernel) rfl, tb_in (n := 330) (by decide +kernel) rfl, tb_in (n := 4) (by decide +kernel) rfl, tb_in (n := 328) (by decide +kernel) rfl⟩
theorem cl_7_150 : CalV RX7 150 3 yX3_scale cX3_scale 2 (some .long) 1 := ⟨by decide +kernel, ⟨by decide +kernel, by decide +kernel, by decide +kernel⟩, tb_in (n := 335) (by decide +kernel) rfl, tb_in (n := 333) (by decide +kernel) rfl, tb_in (n := 334) (by decide +kernel) rfl, tb_in (n := 2) (by decide +kernel) rfl, tb_in (n := 332) (by decide +kernel) rfl⟩
theorem cl_7_154 : CalS RX7 154 yX7_partOf cX7_partOf 10 (some .long) 3 := ⟨⟨by decide +kernel, by decide +kernel, by decide +kernel⟩, tb_in (n := 338) (by decide +kernel) rfl, tb_in (n := 337) (by decide +kernel) rfl, tb_in (n := 1) (by decide +kernel) rfl, tb_in (n := 336) (by decide +kernel) rfl⟩
theorem cl_7_162 : CalV RX7 162 7 yX7_isDay cX7_isDay 2 (some .boolean) 1 := ⟨by decide +kernel, ⟨by decide +kernel, by decide +kernel, by decide +kernel⟩, tb_in (n := 350) (by decide +kernel) rfl, tb_in (n := 349) (by decide +kernel) rfl, tb_sel (n := 4) (by decide +kernel) rfl, tb_in (n := 1) (by decide +kernel) rfl, tb_in (n := 347) (by decide +kernel) rfl⟩
theorem cl_7_165 : CalV RX7 165 7 yX7_findBest cX7_findBest 1 none 0 := ⟨by decide +kernel, ⟨by decide +kernel, by decide +kernel, by decide +kernel⟩, tb_in (n := 354) (by decide +kernel) rfl, tb_in (n := 353) (by decide +kernel) rfl, tb_sel (n := 5) (by decide +kernel) rfl, tb_in (n := 1) (by decide +kernel) rfl, tb_in (n := 351) (by decide +kernel) rfl⟩
theorem cl_7_175 : CalV RX7 175 7 yX7_promised cX7_promised 2 (some (.object "SaturdaySale$Greatest")) 1 := ⟨by decide +kernel, ⟨by decide +kernel, by decide +kernel, by decide +kernel⟩, tb_in (n := 394) (by decide +kernel) rfl, tb_in (n := 393) (by decide +kernel) rfl, tb_sel (n := 10) (by decide +kernel) rfl, tb_in (n := 1) (by decide +kernel) rfl, tb_in (n := 391) (by decide +kernel) rfl⟩
theorem cl_7_182 : CalV RX7 182 7 yX7_promiseMean cX7_promiseMean 2 (some .long) 1 := ⟨by decide +kernel, ⟨by decide +kernel, by decide +kernel, by decide +kernel⟩, tb_in (n := 448) (by decide +kernel) rfl, tb_in (n := 447) (by decide +kernel) rfl, tb_sel (n := 15) (by decide +kernel) rfl, tb_in (n := 1) (by decide +kernel) rfl, tb_in (n := 445) (by decide +kernel) rfl⟩
theorem cl_7_185 : CalV RX7 185 7 yX7_findKept cX7_findKept 5 none 0 := ⟨by decide +kernel, ⟨by decide +kernel, by decide +kernel, by decide +kernel⟩, tb_in (n := 436) (by decide +kernel) rfl, tb_in (n := 435) (by decide +kernel) rfl, tb_sel (n := 14) (by decide +kernel) rfl, tb_in (n := 1) (by decide +kernel) rfl, tb_in (n := 433) (by decide +kernel) rfl⟩
theorem cl_7_188 : CalV RX7 188 4 yX4_askByPlan cX4_askByPlan 4 none 1 := ⟨by decide +kernel, ⟨by decide +kernel, by decide +kernel, by decide +kernel⟩, tb_in (n := 456) (by decide +kernel) rfl, tb_in (n := 454) (by decide +kernel) rfl, tb_in (n := 455) (by decide +kernel) rfl, tb_in (n := 3) (by decide +kernel) rfl, tb_in (n := 453) (by decide +kernel) rfl⟩
theorem cl_7_192 : CalV RX7 192 4 yX4_fillAsked cX4_fillAsked 4 none 1 := ⟨by decide +kernel, ⟨by decide +kernel, by decide +kernel, by decide +kernel⟩, tb_in (n := 460) (by decide +kernel) rfl, tb_in (n := 458) (by decide +kernel) rfl, tb_in (n := 459) (by decide +kernel) rfl, tb_in (n := 3) (by decide +kernel) rfl, tb_in (n := 457) (by decide +kernel) rfl⟩
theorem cl_7_196 : CalV RX7 196 3 yX3_isWaiting cX3_isWaiting 2 (some .boolean) 1 := ⟨by decide +kernel, ⟨by decide +kernel, by decide +kernel, by decide +kernel⟩, tb_in (n := 271) (by decide +kernel) rfl, tb_in (n := 269) (by decide +kernel) rfl, tb_in (n := 270) (by decide +kernel) rfl, tb_in (n := 2) (by decide +kernel) rfl, tb_in (n := 469) (by decide +kernel) rfl⟩
theorem cl_7_199 : CalV RX7 199 3 yX3_dayPicked cX3_dayPicked 8 (some .int) 3 := ⟨by decide +kernel, ⟨by decide +kernel, by decide +kernel, by decide +kernel⟩, tb_in (n := 419) (by decide +kernel) rfl, tb_in (n := 417) (by decide +kernel) rfl, tb_in (n := 418) (by decide +kernel) rfl, tb_in (n := 2) (by decide +kernel) rfl, tb_in (n := 470) (by decide +kernel) rfl⟩
theorem cl_7_209 : CalV RX7 209 5 yX5_faultPlace cX5_faultPlace 3 (some .int) 0 := ⟨by decide +kernel, ⟨by decide +kernel, by decide +kernel, by decide +kernel⟩, tb_in (n := 490) (by decide +kernel) rfl, tb_in (n := 488) (by decide +kernel) rfl, tb_in (n := 489) (by decide +kernel) rfl, tb_in (n := 7) (by decide +kernel) rfl, tb_in (n := 487) (by decide +kernel) rfl⟩
theorem cl_7_213 : CalV RX7 213 2 yX2_read cX2_read 5 none 1 := ⟨by decide +kernel, ⟨by decide +kernel, by decide +kernel, by decide +kernel⟩, tb_in (n := 513) (by decide +kernel) rfl, tb_in (n := 511) (by decide +kernel) rfl, tb_in (n := 512) (by decide +kernel) rfl, tb_in (n := 8) (by decide +kernel) rfl, tb_in (n := 510) (by decide +kernel) rfl⟩
theorem cl_7_220 : CalV RX7 220 7 yX7_ruleRefusalOf cX7_ruleRefusalOf 3 (some .int) 1 := ⟨by decide +kernel, ⟨by decide +kernel, by decide +kernel, by decide +kernel⟩, tb_in (n := 528) (by decide +kernel) rfl, tb_in (n := 527) (by decide +kernel) rfl, tb_sel (n := 18) (by decide +kernel) rfl, tb_in (n := 1) (by decide +kernel) rfl, tb_in (n := 525) (by decide +kernel) rfl⟩
theorem cl_7_223 : CalV RX7 223 2 yX2_numberFor cX2_numberFor 6 (some .int) 3 := ⟨by decide +kernel, ⟨by decide +kernel, by decide +kernel, by decide +kernel⟩, tb_in (n := 532) (by decide +kernel) rfl, tb_in (n := 530) (by decide +kernel) rfl, tb_in (n := 531) (by decide +kernel) rfl, tb_in (n := 8) (by decide +kernel) rfl, tb_in (n := 529) (by decide +kernel) rfl⟩
theorem cl_7_227 : CalV RX7 227 7 yX7_findBoy cX7_findBoy 1 none 0 := ⟨by decide +kernel, ⟨by decide +kernel, by decide +kernel, by decide +kernel⟩, tb_in (n := 547) (by decide +kernel) rfl, tb_in (n := 546) (by decide +kernel) rfl, tb_sel (n := 20) (by decide +kernel) rfl, tb_in (n := 1) (by decide +kernel) rfl, tb_in (n := 544) (by decide +kernel) rfl⟩
theorem cl_7_230 : CalV RX7 230 7 yX7_isOtherWith cX7_isOtherWith 4 (some .boolean) 2 := ⟨by decide +kernel, ⟨by decide +kernel, by decide +kernel, by decide +kernel⟩, tb_in (n := 564) (by decide +kernel) rfl, tb_in (n := 563) (by decide +kernel) rfl, tb_sel (n := 21) (by decide +kernel) rfl, tb_in (n := 1) (by decide +kernel) rfl, tb_in (n := 561) (by decide +kernel) rfl⟩
theorem cl_7_238 : CalV RX7 238 4 yX4_fillBest cX4_fillBest 4 none 1 := ⟨by decide +kernel, ⟨by decide +kernel, by decide +kernel, by decide +kernel⟩, tb_in (n := 358) (by decide +kernel) rfl, tb_in (n := 356) (by decide +kernel) rfl, tb_in (n := 357) (by decide +kernel) rfl, tb_in (n := 3) (by decide +kernel) rfl, tb_in (n := 355) (by decide +kernel) rfl⟩
theorem cl_7_241 : CalV RX7 241 1 yX1_clear cX1_clear 1 none 0 := ⟨by decide +kernel, ⟨by decide +kernel, by decide +kernel, by decide +kernel⟩, tb_in (n := 402) (by decide +kernel) rfl, tb_in (n := 400) (by decide +kernel) rfl, tb_in (n := 401) (by decide +kernel) rfl, tb_in (n := 6) (by decide +kernel) rfl, tb_in (n := 399) (by decide +kernel) rfl⟩
theorem cl_7_244 : CalV RX7 244 0 yX0_begin cX0_begin 2 (some .int) 0 := ⟨by decide +kernel, ⟨by decide +kernel, by decide +kernel, by decide +kernel⟩, tb_in (n := 406) (by decide +kernel) rfl, tb_in (n := 404) (by decide +kernel) rfl, tb_in (n := 405) (by decide +kernel) rfl, tb_in (n := 5) (by decide +kernel) rfl, tb_in (n := 403) (by decide +kernel) rfl⟩
theorem cl_7_248 : CalV RX7 248 1 yX1_offer cX1_offer 4 none 2 := ⟨by decide +kernel, ⟨by decide +kernel, by decide +kernel, by decide +kernel⟩, tb_in (n := 427) (by decide +kernel) rfl, tb_in (n := 425) (by decide +kernel) rfl, tb_in (n := 426) (by decide +kernel) rfl, tb_in (n := 6) (by decide +kernel) rfl, tb_in (n := 424) (by decide +kernel) rfl⟩
theorem cl_7_252 : CalV RX7 252 0 yX0_marksDown cX0_marksDown 4 (some .int) 1 := ⟨by decide +kernel, ⟨by decide +kernel, by decide +kernel, by decide +kernel⟩, tb_in (n := 440) (by decide +kernel) rfl, tb_in (n := 438) (by decide +kernel) rfl, tb_in (n := 439) (by decide +kernel) rfl, tb_in (n := 5) (by decide +kernel) rfl, tb_in (n := 437) (by decide +kernel) rfl⟩
theorem cl_7_255 : CalV RX7 255 0 yX0_advance cX0_advance 6 (some .int) 2 := ⟨by decide +kernel, ⟨by decide +kernel, by decide +kernel, by decide +kernel⟩, tb_in (n := 432) (by decide +kernel) rfl, tb_in (n := 430) (by decide +kernel) rfl, tb_in (n := 431) (by decide +kernel) rfl, tb_in (n := 5) (by decide +kernel) rfl, tb_in (n := 429) (by decide +kernel) rfl⟩
theorem cl_7_258 : CalV RX7 258 6 yX6_goWaiting cX6_goWaiting 5 none 2 := ⟨by decide +kernel, ⟨by decide +kernel, by decide +kernel, by decide +kernel⟩, tb_in (n := 410) (by decide +kernel) rfl, tb_in (n := 408) (by decide +kernel) rfl, tb_in (n := 409) (by decide +kernel) rfl, tb_in (n := 4) (by decide +kernel) rfl, tb_in (n := 407) (by decide +kernel) rfl⟩
theorem cl_7_262 : CalV RX7 262 4 yX4_askByRule cX4_askByRule 5 none 2 := ⟨by decide +kernel, ⟨by decide +kernel, by decide +kernel, by decide +kernel⟩, tb_in (n := 551) (by decide +kernel) rfl, tb_in (n := 549) (by decide +kernel) rfl, tb_in (n := 550) (by decide +kernel) rfl, tb_in (n := 3) (by decide +kernel) rfl, tb_in (n := 548) (by decide +kernel) rfl⟩
theorem cl_7_266 : CalV RX7 266 7 yX7_findMet cX7_findMet 3 none 0 := ⟨by decide +kernel, ⟨by decide +kernel, by decide +kernel, by decide +kernel⟩, tb_in (n := 398) (by decide +kernel) rfl, tb_in (n := 397) (by decide +kernel) rfl, tb_sel (n := 11) (by decide +kernel) rfl, tb_in (n := 1) (by decide +kernel) rfl, tb_in (n := 395) (by decide +kernel) rfl⟩
theorem cl_7_81 : CalS RX7 81 yX7_isWithin cX7_isWithin 3 (some .boolean) 3 := ⟨⟨by decide +kernel, by decide +kernel, by decide +kernel⟩, tb_in (n := 247) (by decide +kernel) rfl, tb_in (n := 246) (by decide +kernel) rfl, tb_in (n := 1) (by decide +kernel) rfl, tb_in (n := 245) (by decide +kernel) rfl⟩
theorem cl_8_106 : CalV RX8 106 8 yX8_isSort cX8_isSort 2 (some .boolean) 1 := ⟨by decide +kernel, ⟨by decide +kernel, by decide +kernel, by decide +kernel⟩, tb_in (n := 691) (by decide +kernel) rfl, tb_in (n := 690) (by decide +kernel) rfl, tb_sel (n := 22) (by decide +kernel) rfl, tb_in (n := 9) (by decide +kernel) rfl, tb_in (n := 688) (by decide +kernel) rfl⟩
theorem cl_8_116 : CalV RX8 116 8 yX8_worthOf cX8_worthOf 4 (some .int) 2 := ⟨by decide +kernel, ⟨by decide +kernel, by decide +kernel, by decide +kernel⟩, tb_in (n := 702) (by decide +kernel) rfl, tb_in (n := 701) (by decide +kernel) rfl, tb_sel (n := 23) (by decide +kernel) rfl, tb_in (n := 9) (by decide +kernel) rfl, tb_in (n := 699) (by decide +kernel) rfl⟩
theorem cl_8_124 : CalV RX8 124 8 yX8_buyer cX8_buyer 5 none 2 := ⟨by decide +kernel, ⟨by decide +kernel, by decide +kernel, by decide +kernel⟩, tb_in (n := 735) (by decide +kernel) rfl, tb_in (n := 734) (by decide +kernel) rfl, tb_sel (n := 28) (by decide +kernel) rfl, tb_in (n := 9) (by decide +kernel) rfl, tb_in (n := 732) (by decide +kernel) rfl⟩
theorem cl_8_128 : CalV RX8 128 8 yX8_beginEnd cX8_beginEnd 2 none 0 := ⟨by decide +kernel, ⟨by decide +kernel, by decide +kernel, by decide +kernel⟩, tb_in (n := 727) (by decide +kernel) rfl, tb_in (n := 726) (by decide +kernel) rfl, tb_sel (n := 26) (by decide +kernel) rfl, tb_in (n := 9) (by decide +kernel) rfl, tb_in (n := 724) (by decide +kernel) rfl⟩
theorem cl_8_131 : CalV RX8 131 8 yX8_keepRow cX8_keepRow 3 none 1 := ⟨by decide +kernel, ⟨by decide +kernel, by decide +kernel, by decide +kernel⟩, tb_in (n := 758) (by decide +kernel) rfl, tb_in (n := 757) (by decide +kernel) rfl, tb_sel (n := 31) (by decide +kernel) rfl, tb_in (n := 9) (by decide +kernel) rfl, tb_in (n := 755) (by decide +kernel) rfl⟩
theorem cl_8_135 : CalV RX8 135 8 yX8_dayAt cX8_dayAt 4 none 2 := ⟨by decide +kernel, ⟨by decide +kernel, by decide +kernel, by decide +kernel⟩, tb_in (n := 731) (by decide +kernel) rfl, tb_in (n := 730) (by decide +kernel) rfl, tb_sel (n := 27) (by decide +kernel) rfl, tb_in (n := 9) (by decide +kernel) rfl, tb_in (n := 728) (by decide +kernel) rfl⟩
theorem cl_8_138 : CalS RX8 138 yX8_isPart cX8_isPart 1 (some .boolean) 1 := ⟨⟨by decide +kernel, by decide +kernel, by decide +kernel⟩, tb_in (n := 713) (by decide +kernel) rfl, tb_in (n := 712) (by decide +kernel) rfl, tb_in (n := 9) (by decide +kernel) rfl, tb_in (n := 711) (by decide +kernel) rfl⟩
theorem cl_8_145 : CalV RX8 145 8 yX8_layPlan cX8_layPlan 2 none 0 := ⟨by decide +kernel, ⟨by decide +kernel, by decide +kernel, by decide +kernel⟩, tb_in (n := 719) (by decide +kernel) rfl, tb_in (n := 718) (by decide +kernel) rfl, tb_sel (n := 24) (by decide +kernel) rfl, tb_in (n := 9) (by decide +kernel) rfl, tb_in (n := 716) (by decide +kernel) rfl⟩
theorem cl_8_148 : CalV RX8 148 8 yX8_bringFrom cX8_bringFrom 3 none 1 := ⟨by decide +kernel, ⟨by decide +kernel, by decide +kernel, by decide +kernel⟩, tb_in (n := 723) (by decide +kernel) rfl, tb_in (n := 722) (by decide +kernel) rfl, tb_sel (n := 25) (by decide +kernel) rfl, tb_in (n := 9) (by decide +kernel) rfl, tb_in (n := 720) (by decide +kernel) rfl⟩
theorem cl_8_151 : CalS RX8 151 yX8_lowest cX8_lowest 11 (some .long) 3 := ⟨⟨by decide +kernel, by decide +kernel, by decide +kernel⟩, tb_in (n := 738) (by decide +kernel) rfl, tb_in (n := 737) (by decide +kernel) rfl, tb_in (n := 9) (by decide +kernel) rfl, tb_in (n := 736) (by decide +kernel) rfl⟩
theorem cl_8_155 : CalV RX8 155 8 yX8_findOdds cX8_findOdds 8 none 1 := ⟨by decide +kernel, ⟨by decide +kernel, by decide +kernel, by decide +kernel⟩, tb_in (n := 746) (by decide +kernel) rfl, tb_in (n := 745) (by decide +kernel) rfl, tb_sel (n := 29) (by decide +kernel) rfl, tb_in (n := 9) (by decide +kernel) rfl, tb_in (n := 743) (by decide +kernel) rfl⟩
theorem cl_8_158 : CalV RX8 158 8 yX8_findBest cX8_findBest 6 none 0 := ⟨by decide +kernel, ⟨by decide +kernel, by decide +kernel, by decide +kernel⟩, tb_in (n := 754) (by decide +kernel) rfl, tb_in (n := 753) (by decide +kernel) rfl, tb_sel (n := 30) (by decide +kernel) rfl, tb_in (n := 9) (by decide +kernel) rfl, tb_in (n := 751) (by decide +kernel) rfl⟩
theorem cl_8_161 : CalS RX8 161 yX8_power cX8_power 1 (some .long) 1 := ⟨⟨by decide +kernel, by decide +kernel, by decide +kernel⟩, tb_in (n := 765) (by decide +kernel) rfl, tb_in (n := 764) (by decide +kernel) rfl, tb_in (n := 9) (by decide +kernel) rfl, tb_in (n := 763) (by decide +kernel) rfl⟩
theorem cl_8_165 : CalV RX8 165 8 yX8_pickOf cX8_pickOf 7 (some .int) 2 := ⟨by decide +kernel, ⟨by decide +kernel, by decide +kernel, by decide +kernel⟩, tb_in (n := 789) (by decide +kernel) rfl, tb_in (n := 788) (by decide +kernel) rfl, tb_sel (n := 35) (by decide +kernel) rfl, tb_in (n := 9) (by decide +kernel) rfl, tb_in (n := 786) (by decide +kernel) rfl⟩
theorem cl_8_168 : CalV RX8 168 8 yX8_isOnce cX8_isOnce 3 (some .boolean) 0 := ⟨by decide +kernel, ⟨by decide +kernel, by decide +kernel, by decide +kernel⟩, tb_in (n := 781) (by decide +kernel) rfl, tb_in (n := 780) (by decide +kernel) rfl, tb_sel (n := 33) (by decide +kernel) rfl, tb_in (n := 9) (by decide +kernel) rfl, tb_in (n := 778) (by decide +kernel) rfl⟩
theorem cl_8_172 : CalV RX8 172 8 yX8_meet cX8_meet 7 none 0 := ⟨by decide +kernel, ⟨by decide +kernel, by decide +kernel, by decide +kernel⟩, tb_in (n := 785) (by decide +kernel) rfl, tb_in (n := 784) (by decide +kernel) rfl, tb_sel (n := 34) (by decide +kernel) rfl, tb_in (n := 9) (by decide +kernel) rfl, tb_in (n := 782) (by decide +kernel) rfl⟩
theorem cl_8_175 : CalV RX8 175 8 yX8_nextPlan cX8_nextPlan 3 (some .boolean) 0 := ⟨by decide +kernel, ⟨by decide +kernel, by decide +kernel, by decide +kernel⟩, tb_in (n := 793) (by decide +kernel) rfl, tb_in (n := 792) (by decide +kernel) rfl, tb_sel (n := 36) (by decide +kernel) rfl, tb_in (n := 9) (by decide +kernel) rfl, tb_in (n := 790) (by decide +kernel) rfl⟩
theorem cl_8_178 : CalV RX8 178 8 yX8_findKept cX8_findKept 6 (some .long) 1 := ⟨by decide +kernel, ⟨by decide +kernel, by decide +kernel, by decide +kernel⟩, tb_in (n := 777) (by decide +kernel) rfl, tb_in (n := 776) (by decide +kernel) rfl, tb_sel (n := 32) (by decide +kernel) rfl, tb_in (n := 9) (by decide +kernel) rfl, tb_in (n := 774) (by decide +kernel) rfl⟩
theorem cl_8_194 : CalS RX8 194 yX8_isHow cX8_isHow 1 (some .boolean) 1 := ⟨⟨by decide +kernel, by decide +kernel, by decide +kernel⟩, tb_in (n := 832) (by decide +kernel) rfl, tb_in (n := 831) (by decide +kernel) rfl, tb_in (n := 9) (by decide +kernel) rfl, tb_in (n := 830) (by decide +kernel) rfl⟩
theorem cl_8_197 : CalS RX8 197 yX8_stepOf cX8_stepOf 4 (some .int) 2 := ⟨⟨by decide +kernel, by decide +kernel, by decide +kernel⟩, tb_in (n := 826) (by decide +kernel) rfl, tb_in (n := 825) (by decide +kernel) rfl, tb_in (n := 9) (by decide +kernel) rfl, tb_in (n := 824) (by decide +kernel) rfl⟩
theorem cl_8_200 : CalV RX8 200 8 yX8_fault cX8_fault 3 (some .int) 0 := ⟨by decide +kernel, ⟨by decide +kernel, by decide +kernel, by decide +kernel⟩, tb_in (n := 823) (by decide +kernel) rfl, tb_in (n := 821) (by decide +kernel) rfl, tb_in (n := 822) (by decide +kernel) rfl, tb_in (n := 9) (by decide +kernel) rfl, tb_in (n := 837) (by decide +kernel) rfl⟩
theorem cl_8_207 : CalV RX8 207 8 yX8_isReady cX8_isReady 1 (some .boolean) 0 := ⟨by decide +kernel, ⟨by decide +kernel, by decide +kernel, by decide +kernel⟩, tb_in (n := 845) (by decide +kernel) rfl, tb_in (n := 844) (by decide +kernel) rfl, tb_sel (n := 37) (by decide +kernel) rfl, tb_in (n := 9) (by decide +kernel) rfl, tb_in (n := 842) (by decide +kernel) rfl⟩
theorem cl_8_210 : CalV RX8 210 8 yX8_askedAt cX8_askedAt 8 (some .int) 2 := ⟨by decide +kernel, ⟨by decide +kernel, by decide +kernel, by decide +kernel⟩, tb_in (n := 849) (by decide +kernel) rfl, tb_in (n := 848) (by decide +kernel) rfl, tb_sel (n := 38) (by decide +kernel) rfl, tb_in (n := 9) (by decide +kernel) rfl, tb_in (n := 846) (by decide +kernel) rfl⟩
theorem cl_8_213 : CalV RX8 213 8 yX8_findBoy cX8_findBoy 6 none 0 := ⟨by decide +kernel, ⟨by decide +kernel, by decide +kernel, by decide +kernel⟩, tb_in (n := 857) (by decide +kernel) rfl, tb_in (n := 856) (by decide +kernel) rfl, tb_sel (n := 39) (by decide +kernel) rfl, tb_in (n := 9) (by decide +kernel) rfl, tb_in (n := 854) (by decide +kernel) rfl⟩
theorem cl_8_216 : CalV RX8 216 8 yX8_beginPrice cX8_beginPrice 1 (some .int) 0 := ⟨by decide +kernel, ⟨by decide +kernel, by decide +kernel, by decide +kernel⟩, tb_in (n := 869) (by decide +kernel) rfl, tb_in (n := 868) (by decide +kernel) rfl, tb_sel (n := 40) (by decide +kernel) rfl, tb_in (n := 9) (by decide +kernel) rfl, tb_in (n := 866) (by decide +kernel) rfl⟩
theorem cl_8_83 : CalS RX8 83 yX8_in cX8_in 6 (some .boolean) 3 := ⟨⟨by decide +kernel, by decide +kernel, by decide +kernel⟩, tb_in (n := 670) (by decide +kernel) rfl, tb_in (n := 669) (by decide +kernel) rfl, tb_in (n := 9) (by decide +kernel) rfl, tb_in (n := 668) (by decide +kernel) rfl⟩
theorem fl_0_9 : Fld RX0 9 0 0 true (.array .int) := ⟨RX0, TX0, 1, tyX0, rfl, by decide, inT_0, tyX0_ok, nmX0, rfl, by decide +kernel, Or.inl (tb_in (n := 130) (by decide +kernel) rfl)⟩
theorem fl_1_17 : Fld RX1 17 1 1 false (.long) := ⟨RX1, TX1, 2, tyX1, rfl, by decide, inT_1, tyX1_ok, nmX1, rfl, by decide +kernel, Or.inl (tb_in (n := 144) (by decide +kernel) rfl)⟩
theorem fl_1_9 : Fld RX1 9 1 0 true (.array .int) := ⟨RX1, TX1, 2, tyX1, rfl, by decide, inT_1, tyX1_ok, nmX1, rfl, by decide +kernel, Or.inl (tb_in (n := 142) (by decide +kernel) rfl)⟩
theorem fl_2_15 : Fld RX2 15 2 1 false (.int) := ⟨RX2, TX2, 7, tyX2, rfl, by decide, inT_2, tyX2_ok, nmX2, rfl, by decide +kernel, Or.inl (tb_in (n := 176) (by decide +kernel) rfl)⟩
theorem fl_2_19 : Fld RX2 19 2 2 true (.array .int) := ⟨RX2, TX2, 7, tyX2, rfl, by decide, inT_2, tyX2_ok, nmX2, rfl, by decide +kernel, Or.inl (tb_in (n := 178) (by decide +kernel) rfl)⟩
theorem fl_2_23 : Fld RX2 23 2 3 true (.array .int) := ⟨RX2, TX2, 7, tyX2, rfl, by decide, inT_2, tyX2_ok, nmX2, rfl, by decide +kernel, Or.inl (tb_in (n := 179) (by decide +kernel) rfl)⟩
theorem fl_2_26 : Fld RX2 26 2 4 true (.array .int) := ⟨RX2, TX2, 7, tyX2, rfl, by decide, inT_2, tyX2_ok, nmX2, rfl, by decide +kernel, Or.inl (tb_in (n := 180) (by decide +kernel) rfl)⟩
theorem fl_2_29 : Fld RX2 29 2 5 true (.array .int) := ⟨RX2, TX2, 7, tyX2, rfl, by decide, inT_2, tyX2_ok, nmX2, rfl, by decide +kernel, Or.inl (tb_in (n := 181) (by decide +kernel) rfl)⟩
theorem fl_2_32 : Fld RX2 32 2 6 false (.int) := ⟨RX2, TX2, 7, tyX2, rfl, by decide, inT_2, tyX2_ok, nmX2, rfl, by decide +kernel, Or.inl (tb_in (n := 182) (by decide +kernel) rfl)⟩
theorem fl_2_37 : Fld RX2 37 5 1 false (.int) := ⟨RX5, TX5, 2, tyX5, rfl, by decide, inT_5, tyX5_ok, nmX5, rfl, by decide +kernel, Or.inr ⟨"SaturdaySale", nb_in (n := 161) (by decide +kernel) rfl⟩⟩
theorem fl_2_40 : Fld RX2 40 5 0 true (.array .int) := ⟨RX5, TX5, 2, tyX5, rfl, by decide, inT_5, tyX5_ok, nmX5, rfl, by decide +kernel, Or.inr ⟨"SaturdaySale", nb_in (n := 158) (by decide +kernel) rfl⟩⟩
theorem fl_2_9 : Fld RX2 9 2 0 false (.boolean) := ⟨RX2, TX2, 7, tyX2, rfl, by decide, inT_2, tyX2_ok, nmX2, rfl, by decide +kernel, Or.inl (tb_in (n := 174) (by decide +kernel) rfl)⟩
theorem fl_3_15 : Fld RX3 15 3 1 false (.int) := ⟨RX3, TX3, 11, tyX3, rfl, by decide, inT_3, tyX3_ok, nmX3, rfl, by decide +kernel, Or.inl (tb_in (n := 29) (by decide +kernel) rfl)⟩
theorem fl_3_21 : Fld RX3 21 3 3 true (.array .int) := ⟨RX3, TX3, 11, tyX3, rfl, by decide, inT_3, tyX3_ok, nmX3, rfl, by decide +kernel, Or.inl (tb_in (n := 37) (by decide +kernel) rfl)⟩
theorem fl_3_25 : Fld RX3 25 3 4 false (.int) := ⟨RX3, TX3, 11, tyX3, rfl, by decide, inT_3, tyX3_ok, nmX3, rfl, by decide +kernel, Or.inl (tb_in (n := 41) (by decide +kernel) rfl)⟩
theorem fl_3_28 : Fld RX3 28 3 5 true (.array .int) := ⟨RX3, TX3, 11, tyX3, rfl, by decide, inT_3, tyX3_ok, nmX3, rfl, by decide +kernel, Or.inl (tb_in (n := 44) (by decide +kernel) rfl)⟩
theorem fl_3_31 : Fld RX3 31 3 6 true (.array .int) := ⟨RX3, TX3, 11, tyX3, rfl, by decide, inT_3, tyX3_ok, nmX3, rfl, by decide +kernel, Or.inl (tb_in (n := 46) (by decide +kernel) rfl)⟩
theorem fl_3_34 : Fld RX3 34 3 7 true (.array .int) := ⟨RX3, TX3, 11, tyX3, rfl, by decide, inT_3, tyX3_ok, nmX3, rfl, by decide +kernel, Or.inl (tb_in (n := 48) (by decide +kernel) rfl)⟩
theorem fl_3_37 : Fld RX3 37 3 8 true (.array .int) := ⟨RX3, TX3, 11, tyX3, rfl, by decide, inT_3, tyX3_ok, nmX3, rfl, by decide +kernel, Or.inl (tb_in (n := 50) (by decide +kernel) rfl)⟩
theorem fl_3_40 : Fld RX3 40 3 9 false (.int) := ⟨RX3, TX3, 11, tyX3, rfl, by decide, inT_3, tyX3_ok, nmX3, rfl, by decide +kernel, Or.inl (tb_in (n := 52) (by decide +kernel) rfl)⟩
theorem fl_4_11 : Fld RX4 11 4 0 true (.array (.array .long)) := ⟨RX4, TX4, 3, tyX4, rfl, by decide, inT_4, tyX4_ok, nmX4, rfl, by decide +kernel, Or.inl (tb_in (n := 92) (by decide +kernel) rfl)⟩
theorem fl_4_18 : Fld RX4 18 4 1 true (.array (.array .int)) := ⟨RX4, TX4, 3, tyX4, rfl, by decide, inT_4, tyX4_ok, nmX4, rfl, by decide +kernel, Or.inl (tb_in (n := 94) (by decide +kernel) rfl)⟩
theorem fl_4_21 : Fld RX4 21 4 2 true (.array .long) := ⟨RX4, TX4, 3, tyX4, rfl, by decide, inT_4, tyX4_ok, nmX4, rfl, by decide +kernel, Or.inl (tb_in (n := 96) (by decide +kernel) rfl)⟩
theorem fl_4_35 : Fld RX4 35 3 1 false (.int) := ⟨RX3, TX3, 11, tyX3, rfl, by decide, inT_3, tyX3_ok, nmX3, rfl, by decide +kernel, Or.inr ⟨"SaturdaySale", nb_in (n := 32) (by decide +kernel) rfl⟩⟩
theorem fl_4_41 : Fld RX4 41 3 4 false (.int) := ⟨RX3, TX3, 11, tyX3, rfl, by decide, inT_3, tyX3_ok, nmX3, rfl, by decide +kernel, Or.inr ⟨"SaturdaySale", nb_in (n := 43) (by decide +kernel) rfl⟩⟩
theorem fl_4_55 : Fld RX4 55 3 2 false (.int) := ⟨RX3, TX3, 11, tyX3, rfl, by decide, inT_3, tyX3_ok, nmX3, rfl, by decide +kernel, Or.inr ⟨"SaturdaySale", nb_in (n := 36) (by decide +kernel) rfl⟩⟩
theorem fl_4_68 : Fld RX4 68 3 9 false (.int) := ⟨RX3, TX3, 11, tyX3, rfl, by decide, inT_3, tyX3_ok, nmX3, rfl, by decide +kernel, Or.inr ⟨"SaturdaySale", nb_in (n := 55) (by decide +kernel) rfl⟩⟩
theorem fl_4_74 : Fld RX4 74 3 3 true (.array .int) := ⟨RX3, TX3, 11, tyX3, rfl, by decide, inT_3, tyX3_ok, nmX3, rfl, by decide +kernel, Or.inr ⟨"SaturdaySale", nb_in (n := 40) (by decide +kernel) rfl⟩⟩
theorem fl_5_15 : Fld RX5 15 5 1 false (.int) := ⟨RX5, TX5, 2, tyX5, rfl, by decide, inT_5, tyX5_ok, nmX5, rfl, by decide +kernel, Or.inl (tb_in (n := 160) (by decide +kernel) rfl)⟩
theorem fl_5_9 : Fld RX5 9 5 0 true (.array .int) := ⟨RX5, TX5, 2, tyX5, rfl, by decide, inT_5, tyX5_ok, nmX5, rfl, by decide +kernel, Or.inl (tb_in (n := 157) (by decide +kernel) rfl)⟩
theorem fl_6_11 : Fld RX6 11 6 0 true (.array (.array .long)) := ⟨RX6, TX6, 3, tyX6, rfl, by decide, inT_6, tyX6_ok, nmX6, rfl, by decide +kernel, Or.inl (tb_in (n := 113) (by decide +kernel) rfl)⟩
theorem fl_6_16 : Fld RX6 16 6 1 true (.array .long) := ⟨RX6, TX6, 3, tyX6, rfl, by decide, inT_6, tyX6_ok, nmX6, rfl, by decide +kernel, Or.inl (tb_in (n := 115) (by decide +kernel) rfl)⟩
theorem fl_6_22 : Fld RX6 22 6 2 true (.array (.array .int)) := ⟨RX6, TX6, 3, tyX6, rfl, by decide, inT_6, tyX6_ok, nmX6, rfl, by decide +kernel, Or.inl (tb_in (n := 116) (by decide +kernel) rfl)⟩
theorem fl_6_29 : Fld RX6 29 3 1 false (.int) := ⟨RX3, TX3, 11, tyX3, rfl, by decide, inT_3, tyX3_ok, nmX3, rfl, by decide +kernel, Or.inr ⟨"SaturdaySale", nb_in (n := 30) (by decide +kernel) rfl⟩⟩
theorem fl_6_39 : Fld RX6 39 3 9 false (.int) := ⟨RX3, TX3, 11, tyX3, rfl, by decide, inT_3, tyX3_ok, nmX3, rfl, by decide +kernel, Or.inr ⟨"SaturdaySale", nb_in (n := 53) (by decide +kernel) rfl⟩⟩
theorem fl_6_46 : Fld RX6 46 3 3 true (.array .int) := ⟨RX3, TX3, 11, tyX3, rfl, by decide, inT_3, tyX3_ok, nmX3, rfl, by decide +kernel, Or.inr ⟨"SaturdaySale", nb_in (n := 38) (by decide +kernel) rfl⟩⟩
theorem fl_6_62 : Fld RX6 62 3 0 false (.int) := ⟨RX3, TX3, 11, tyX3, rfl, by decide, inT_3, tyX3_ok, nmX3, rfl, by decide +kernel, Or.inr ⟨"SaturdaySale", nb_in (n := 28) (by decide +kernel) rfl⟩⟩
theorem fl_6_65 : Fld RX6 65 3 2 false (.int) := ⟨RX3, TX3, 11, tyX3, rfl, by decide, inT_3, tyX3_ok, nmX3, rfl, by decide +kernel, Or.inr ⟨"SaturdaySale", nb_in (n := 35) (by decide +kernel) rfl⟩⟩
theorem fl_7_10 : Fld RX7 10 7 0 true (.object "SaturdaySale$Sale") := ⟨RX7, TX7, 14, tyX7, rfl, by decide, inT_7, tyX7_ok, nmX7, rfl, by decide +kernel, Or.inl (tb_in (n := 198) (by decide +kernel) rfl)⟩
theorem fl_7_100 : Fld RX7 100 3 3 true (.array .int) := ⟨RX3, TX3, 11, tyX3, rfl, by decide, inT_3, tyX3_ok, nmX3, rfl, by decide +kernel, Or.inr ⟨"SaturdaySale", nb_in (n := 39) (by decide +kernel) rfl⟩⟩
theorem fl_7_103 : Fld RX7 103 3 9 false (.int) := ⟨RX3, TX3, 11, tyX3, rfl, by decide, inT_3, tyX3_ok, nmX3, rfl, by decide +kernel, Or.inr ⟨"SaturdaySale", nb_in (n := 54) (by decide +kernel) rfl⟩⟩
theorem fl_7_106 : Fld RX7 106 3 5 true (.array .int) := ⟨RX3, TX3, 11, tyX3, rfl, by decide, inT_3, tyX3_ok, nmX3, rfl, by decide +kernel, Or.inr ⟨"SaturdaySale", nb_in (n := 45) (by decide +kernel) rfl⟩⟩
theorem fl_7_109 : Fld RX7 109 3 6 true (.array .int) := ⟨RX3, TX3, 11, tyX3, rfl, by decide, inT_3, tyX3_ok, nmX3, rfl, by decide +kernel, Or.inr ⟨"SaturdaySale", nb_in (n := 47) (by decide +kernel) rfl⟩⟩
theorem fl_7_112 : Fld RX7 112 3 7 true (.array .int) := ⟨RX3, TX3, 11, tyX3, rfl, by decide, inT_3, tyX3_ok, nmX3, rfl, by decide +kernel, Or.inr ⟨"SaturdaySale", nb_in (n := 49) (by decide +kernel) rfl⟩⟩
theorem fl_7_115 : Fld RX7 115 3 8 true (.array .int) := ⟨RX3, TX3, 11, tyX3, rfl, by decide, inT_3, tyX3_ok, nmX3, rfl, by decide +kernel, Or.inr ⟨"SaturdaySale", nb_in (n := 51) (by decide +kernel) rfl⟩⟩
theorem fl_7_158 : Fld RX7 158 6 0 true (.array (.array .long)) := ⟨RX6, TX6, 3, tyX6, rfl, by decide, inT_6, tyX6_ok, nmX6, rfl, by decide +kernel, Or.inr ⟨"SaturdaySale", nb_in (n := 114) (by decide +kernel) rfl⟩⟩
theorem fl_7_16 : Fld RX7 16 7 1 true (.array .int) := ⟨RX7, TX7, 14, tyX7, rfl, by decide, inT_7, tyX7_ok, nmX7, rfl, by decide +kernel, Or.inl (tb_in (n := 199) (by decide +kernel) rfl)⟩
theorem fl_7_168 : Fld RX7 168 4 1 true (.array (.array .int)) := ⟨RX4, TX4, 3, tyX4, rfl, by decide, inT_4, tyX4_ok, nmX4, rfl, by decide +kernel, Or.inr ⟨"SaturdaySale", nb_in (n := 95) (by decide +kernel) rfl⟩⟩
theorem fl_7_172 : Fld RX7 172 4 0 true (.array (.array .long)) := ⟨RX4, TX4, 3, tyX4, rfl, by decide, inT_4, tyX4_ok, nmX4, rfl, by decide +kernel, Or.inr ⟨"SaturdaySale", nb_in (n := 93) (by decide +kernel) rfl⟩⟩
theorem fl_7_179 : Fld RX7 179 1 0 true (.array .int) := ⟨RX1, TX1, 2, tyX1, rfl, by decide, inT_1, tyX1_ok, nmX1, rfl, by decide +kernel, Or.inr ⟨"SaturdaySale", nb_in (n := 143) (by decide +kernel) rfl⟩⟩
theorem fl_7_203 : Fld RX7 203 5 1 false (.int) := ⟨RX5, TX5, 2, tyX5, rfl, by decide, inT_5, tyX5_ok, nmX5, rfl, by decide +kernel, Or.inr ⟨"SaturdaySale", nb_in (n := 162) (by decide +kernel) rfl⟩⟩
theorem fl_7_206 : Fld RX7 206 5 0 true (.array .int) := ⟨RX5, TX5, 2, tyX5, rfl, by decide, inT_5, tyX5_ok, nmX5, rfl, by decide +kernel, Or.inr ⟨"SaturdaySale", nb_in (n := 159) (by decide +kernel) rfl⟩⟩
theorem fl_7_217 : Fld RX7 217 2 1 false (.int) := ⟨RX2, TX2, 7, tyX2, rfl, by decide, inT_2, tyX2_ok, nmX2, rfl, by decide +kernel, Or.inr ⟨"SaturdaySale", nb_in (n := 177) (by decide +kernel) rfl⟩⟩
theorem fl_7_23 : Fld RX7 23 7 2 true (.object "SaturdaySale$Table") := ⟨RX7, TX7, 14, tyX7, rfl, by decide, inT_7, tyX7_ok, nmX7, rfl, by decide +kernel, Or.inl (tb_in (n := 200) (by decide +kernel) rfl)⟩
theorem fl_7_234 : Fld RX7 234 2 0 false (.boolean) := ⟨RX2, TX2, 7, tyX2, rfl, by decide, inT_2, tyX2_ok, nmX2, rfl, by decide +kernel, Or.inr ⟨"SaturdaySale", nb_in (n := 175) (by decide +kernel) rfl⟩⟩
theorem fl_7_247 : Fld RX7 247 0 0 true (.array .int) := ⟨RX0, TX0, 1, tyX0, rfl, by decide, inT_0, tyX0_ok, nmX0, rfl, by decide +kernel, Or.inr ⟨"SaturdaySale", nb_in (n := 131) (by decide +kernel) rfl⟩⟩
theorem fl_7_269 : Fld RX7 269 1 1 false (.long) := ⟨RX1, TX1, 2, tyX1, rfl, by decide, inT_1, tyX1_ok, nmX1, rfl, by decide +kernel, Or.inr ⟨"SaturdaySale", nb_in (n := 145) (by decide +kernel) rfl⟩⟩
theorem fl_7_27 : Fld RX7 27 7 3 true (.object "SaturdaySale$Table") := ⟨RX7, TX7, 14, tyX7, rfl, by decide, inT_7, tyX7_ok, nmX7, rfl, by decide +kernel, Or.inl (tb_in (n := 201) (by decide +kernel) rfl)⟩
theorem fl_7_33 : Fld RX7 33 7 4 true (.object "SaturdaySale$Walk") := ⟨RX7, TX7, 14, tyX7, rfl, by decide, inT_7, tyX7_ok, nmX7, rfl, by decide +kernel, Or.inl (tb_in (n := 202) (by decide +kernel) rfl)⟩
theorem fl_7_40 : Fld RX7 40 7 5 true (.object "SaturdaySale$FallingPlans") := ⟨RX7, TX7, 14, tyX7, rfl, by decide, inT_7, tyX7_ok, nmX7, rfl, by decide +kernel, Or.inl (tb_in (n := 203) (by decide +kernel) rfl)⟩
theorem fl_7_47 : Fld RX7 47 7 6 true (.object "SaturdaySale$Greatest") := ⟨RX7, TX7, 14, tyX7, rfl, by decide, inT_7, tyX7_ok, nmX7, rfl, by decide +kernel, Or.inl (tb_in (n := 204) (by decide +kernel) rfl)⟩
theorem fl_7_51 : Fld RX7 51 7 7 true (.object "SaturdaySale$Greatest") := ⟨RX7, TX7, 14, tyX7, rfl, by decide, inT_7, tyX7_ok, nmX7, rfl, by decide +kernel, Or.inl (tb_in (n := 205) (by decide +kernel) rfl)⟩
theorem fl_7_54 : Fld RX7 54 7 8 true (.object "SaturdaySale$Greatest") := ⟨RX7, TX7, 14, tyX7, rfl, by decide, inT_7, tyX7_ok, nmX7, rfl, by decide +kernel, Or.inl (tb_in (n := 206) (by decide +kernel) rfl)⟩
theorem fl_7_60 : Fld RX7 60 7 9 true (.object "SaturdaySale$Text") := ⟨RX7, TX7, 14, tyX7, rfl, by decide, inT_7, tyX7_ok, nmX7, rfl, by decide +kernel, Or.inl (tb_in (n := 207) (by decide +kernel) rfl)⟩
theorem fl_7_67 : Fld RX7 67 7 10 true (.object "SaturdaySale$Rule") := ⟨RX7, TX7, 14, tyX7, rfl, by decide, inT_7, tyX7_ok, nmX7, rfl, by decide +kernel, Or.inl (tb_in (n := 208) (by decide +kernel) rfl)⟩
theorem fl_7_71 : Fld RX7 71 7 11 false (.int) := ⟨RX7, TX7, 14, tyX7, rfl, by decide, inT_7, tyX7_ok, nmX7, rfl, by decide +kernel, Or.inl (tb_in (n := 209) (by decide +kernel) rfl)⟩
theorem fl_7_75 : Fld RX7 75 7 12 false (.int) := ⟨RX7, TX7, 14, tyX7, rfl, by decide, inT_7, tyX7_ok, nmX7, rfl, by decide +kernel, Or.inl (tb_in (n := 210) (by decide +kernel) rfl)⟩
theorem fl_7_78 : Fld RX7 78 7 13 false (.int) := ⟨RX7, TX7, 14, tyX7, rfl, by decide, inT_7, tyX7_ok, nmX7, rfl, by decide +kernel, Or.inl (tb_in (n := 211) (by decide +kernel) rfl)⟩
theorem fl_7_85 : Fld RX7 85 3 0 false (.int) := ⟨RX3, TX3, 11, tyX3, rfl, by decide, inT_3, tyX3_ok, nmX3, rfl, by decide +kernel, Or.inr ⟨"SaturdaySale", nb_in (n := 27) (by decide +kernel) rfl⟩⟩
theorem fl_7_88 : Fld RX7 88 3 1 false (.int) := ⟨RX3, TX3, 11, tyX3, rfl, by decide, inT_3, tyX3_ok, nmX3, rfl, by decide +kernel, Or.inr ⟨"SaturdaySale", nb_in (n := 31) (by decide +kernel) rfl⟩⟩
theorem fl_7_91 : Fld RX7 91 3 2 false (.int) := ⟨RX3, TX3, 11, tyX3, rfl, by decide, inT_3, tyX3_ok, nmX3, rfl, by decide +kernel, Or.inr ⟨"SaturdaySale", nb_in (n := 34) (by decide +kernel) rfl⟩⟩
theorem fl_7_94 : Fld RX7 94 3 10 false (.int) := ⟨RX3, TX3, 11, tyX3, rfl, by decide, inT_3, tyX3_ok, nmX3, rfl, by decide +kernel, Or.inr ⟨"SaturdaySale", nb_in (n := 57) (by decide +kernel) rfl⟩⟩
theorem fl_7_97 : Fld RX7 97 3 4 false (.int) := ⟨RX3, TX3, 11, tyX3, rfl, by decide, inT_3, tyX3_ok, nmX3, rfl, by decide +kernel, Or.inr ⟨"SaturdaySale", nb_in (n := 42) (by decide +kernel) rfl⟩⟩
theorem fl_8_103 : Fld RX8 103 8 9 false (.int) := ⟨RX8, TX8, 29, tyX8, rfl, by decide, inT_8, tyX8_ok, nmX8, rfl, by decide +kernel, Or.inl (tb_in (n := 584) (by decide +kernel) rfl)⟩
theorem fl_8_120 : Fld RX8 120 8 12 false (.long) := ⟨RX8, TX8, 29, tyX8, rfl, by decide, inT_8, tyX8_ok, nmX8, rfl, by decide +kernel, Or.inl (tb_in (n := 587) (by decide +kernel) rfl)⟩
theorem fl_8_13 : Fld RX8 13 8 5 true (.array .int) := ⟨RX8, TX8, 29, tyX8, rfl, by decide, inT_8, tyX8_ok, nmX8, rfl, by decide +kernel, Or.inl (tb_in (n := 580) (by decide +kernel) rfl)⟩
theorem fl_8_16 : Fld RX8 16 8 6 true (.array .int) := ⟨RX8, TX8, 29, tyX8, rfl, by decide, inT_8, tyX8_ok, nmX8, rfl, by decide +kernel, Or.inl (tb_in (n := 581) (by decide +kernel) rfl)⟩
theorem fl_8_185 : Fld RX8 185 8 20 false (.int) := ⟨RX8, TX8, 29, tyX8, rfl, by decide, inT_8, tyX8_ok, nmX8, rfl, by decide +kernel, Or.inl (tb_in (n := 595) (by decide +kernel) rfl)⟩
theorem fl_8_19 : Fld RX8 19 8 7 true (.array .int) := ⟨RX8, TX8, 29, tyX8, rfl, by decide, inT_8, tyX8_ok, nmX8, rfl, by decide +kernel, Or.inl (tb_in (n := 582) (by decide +kernel) rfl)⟩
theorem fl_8_204 : Fld RX8 204 8 25 false (.int) := ⟨RX8, TX8, 29, tyX8, rfl, by decide, inT_8, tyX8_ok, nmX8, rfl, by decide +kernel, Or.inl (tb_in (n := 600) (by decide +kernel) rfl)⟩
theorem fl_8_22 : Fld RX8 22 8 8 true (.array .int) := ⟨RX8, TX8, 29, tyX8, rfl, by decide, inT_8, tyX8_ok, nmX8, rfl, by decide +kernel, Or.inl (tb_in (n := 583) (by decide +kernel) rfl)⟩
theorem fl_8_25 : Fld RX8 25 8 10 true (.array .int) := ⟨RX8, TX8, 29, tyX8, rfl, by decide, inT_8, tyX8_ok, nmX8, rfl, by decide +kernel, Or.inl (tb_in (n := 585) (by decide +kernel) rfl)⟩
theorem fl_8_28 : Fld RX8 28 8 11 true (.array .long) := ⟨RX8, TX8, 29, tyX8, rfl, by decide, inT_8, tyX8_ok, nmX8, rfl, by decide +kernel, Or.inl (tb_in (n := 586) (by decide +kernel) rfl)⟩
theorem fl_8_32 : Fld RX8 32 8 13 true (.array .long) := ⟨RX8, TX8, 29, tyX8, rfl, by decide, inT_8, tyX8_ok, nmX8, rfl, by decide +kernel, Or.inl (tb_in (n := 588) (by decide +kernel) rfl)⟩
theorem fl_8_35 : Fld RX8 35 8 14 true (.array .int) := ⟨RX8, TX8, 29, tyX8, rfl, by decide, inT_8, tyX8_ok, nmX8, rfl, by decide +kernel, Or.inl (tb_in (n := 589) (by decide +kernel) rfl)⟩
theorem fl_8_38 : Fld RX8 38 8 15 true (.array .long) := ⟨RX8, TX8, 29, tyX8, rfl, by decide, inT_8, tyX8_ok, nmX8, rfl, by decide +kernel, Or.inl (tb_in (n := 590) (by decide +kernel) rfl)⟩
theorem fl_8_41 : Fld RX8 41 8 16 true (.array .int) := ⟨RX8, TX8, 29, tyX8, rfl, by decide, inT_8, tyX8_ok, nmX8, rfl, by decide +kernel, Or.inl (tb_in (n := 591) (by decide +kernel) rfl)⟩
theorem fl_8_44 : Fld RX8 44 8 17 true (.array .long) := ⟨RX8, TX8, 29, tyX8, rfl, by decide, inT_8, tyX8_ok, nmX8, rfl, by decide +kernel, Or.inl (tb_in (n := 592) (by decide +kernel) rfl)⟩
theorem fl_8_47 : Fld RX8 47 8 18 true (.array .int) := ⟨RX8, TX8, 29, tyX8, rfl, by decide, inT_8, tyX8_ok, nmX8, rfl, by decide +kernel, Or.inl (tb_in (n := 593) (by decide +kernel) rfl)⟩
theorem fl_8_50 : Fld RX8 50 8 19 true (.array .int) := ⟨RX8, TX8, 29, tyX8, rfl, by decide, inT_8, tyX8_ok, nmX8, rfl, by decide +kernel, Or.inl (tb_in (n := 594) (by decide +kernel) rfl)⟩
theorem fl_8_53 : Fld RX8 53 8 21 true (.array .int) := ⟨RX8, TX8, 29, tyX8, rfl, by decide, inT_8, tyX8_ok, nmX8, rfl, by decide +kernel, Or.inl (tb_in (n := 596) (by decide +kernel) rfl)⟩
theorem fl_8_56 : Fld RX8 56 8 22 true (.array .int) := ⟨RX8, TX8, 29, tyX8, rfl, by decide, inT_8, tyX8_ok, nmX8, rfl, by decide +kernel, Or.inl (tb_in (n := 597) (by decide +kernel) rfl)⟩
theorem fl_8_59 : Fld RX8 59 8 23 true (.array .int) := ⟨RX8, TX8, 29, tyX8, rfl, by decide, inT_8, tyX8_ok, nmX8, rfl, by decide +kernel, Or.inl (tb_in (n := 598) (by decide +kernel) rfl)⟩
theorem fl_8_62 : Fld RX8 62 8 24 true (.array .int) := ⟨RX8, TX8, 29, tyX8, rfl, by decide, inT_8, tyX8_ok, nmX8, rfl, by decide +kernel, Or.inl (tb_in (n := 599) (by decide +kernel) rfl)⟩
theorem fl_8_65 : Fld RX8 65 8 26 false (.int) := ⟨RX8, TX8, 29, tyX8, rfl, by decide, inT_8, tyX8_ok, nmX8, rfl, by decide +kernel, Or.inl (tb_in (n := 601) (by decide +kernel) rfl)⟩
theorem fl_8_69 : Fld RX8 69 8 27 true (.array .long) := ⟨RX8, TX8, 29, tyX8, rfl, by decide, inT_8, tyX8_ok, nmX8, rfl, by decide +kernel, Or.inl (tb_in (n := 602) (by decide +kernel) rfl)⟩
theorem fl_8_7 : Fld RX8 7 8 3 true (.array .int) := ⟨RX8, TX8, 29, tyX8, rfl, by decide, inT_8, tyX8_ok, nmX8, rfl, by decide +kernel, Or.inl (tb_in (n := 578) (by decide +kernel) rfl)⟩
theorem fl_8_72 : Fld RX8 72 8 28 true (.array .long) := ⟨RX8, TX8, 29, tyX8, rfl, by decide, inT_8, tyX8_ok, nmX8, rfl, by decide +kernel, Or.inl (tb_in (n := 603) (by decide +kernel) rfl)⟩
theorem fl_8_75 : Fld RX8 75 8 0 false (.int) := ⟨RX8, TX8, 29, tyX8, rfl, by decide, inT_8, tyX8_ok, nmX8, rfl, by decide +kernel, Or.inl (tb_in (n := 575) (by decide +kernel) rfl)⟩
theorem fl_8_78 : Fld RX8 78 8 1 false (.int) := ⟨RX8, TX8, 29, tyX8, rfl, by decide, inT_8, tyX8_ok, nmX8, rfl, by decide +kernel, Or.inl (tb_in (n := 576) (by decide +kernel) rfl)⟩
theorem fl_8_93 : Fld RX8 93 8 2 false (.int) := ⟨RX8, TX8, 29, tyX8, rfl, by decide, inT_8, tyX8_ok, nmX8, rfl, by decide +kernel, Or.inl (tb_in (n := 577) (by decide +kernel) rfl)⟩
theorem fl_8_96 : Fld RX8 96 8 4 false (.int) := ⟨RX8, TX8, 29, tyX8, rfl, by decide, inT_8, tyX8_ok, nmX8, rfl, by decide +kernel, Or.inl (tb_in (n := 579) (by decide +kernel) rfl)⟩
theorem lg_1_15 : Cond.constantLong RX1 15 (-1) ∈ TB := tb_in (n := 141) (by decide +kernel) rfl
theorem lg_4_82 : Cond.constantLong RX4 82 (4) ∈ TB := tb_in (n := 374) (by decide +kernel) rfl
theorem lg_6_82 : Cond.constantLong RX6 82 (4) ∈ TB := tb_in (n := 327) (by decide +kernel) rfl
theorem lg_7_140 : Cond.constantLong RX7 140 (-1000000000000000000) ∈ TB := tb_in (n := 302) (by decide +kernel) rfl
theorem lg_8_101 : Cond.constantLong RX8 101 (30) ∈ TB := tb_in (n := 683) (by decide +kernel) rfl
theorem lg_8_110 : Cond.constantLong RX8 110 (3) ∈ TB := tb_in (n := 692) (by decide +kernel) rfl
theorem lg_8_112 : Cond.constantLong RX8 112 (-1) ∈ TB := tb_in (n := 693) (by decide +kernel) rfl
theorem lg_8_114 : Cond.constantLong RX8 114 (5) ∈ TB := tb_in (n := 698) (by decide +kernel) rfl
theorem lg_8_141 : Cond.constantLong RX8 141 (-1000000000000000002) ∈ TB := tb_in (n := 714) (by decide +kernel) rfl
theorem lg_8_143 : Cond.constantLong RX8 143 (-1000000000000000003) ∈ TB := tb_in (n := 715) (by decide +kernel) rfl
theorem lg_8_181 : Cond.constantLong RX8 181 (33) ∈ TB := tb_in (n := 814) (by decide +kernel) rfl
theorem lg_8_183 : Cond.constantLong RX8 183 (126) ∈ TB := tb_in (n := 815) (by decide +kernel) rfl
theorem lg_8_188 : Cond.constantLong RX8 188 (48) ∈ TB := tb_in (n := 827) (by decide +kernel) rfl
theorem lg_8_190 : Cond.constantLong RX8 190 (57) ∈ TB := tb_in (n := 828) (by decide +kernel) rfl
theorem lg_8_192 : Cond.constantLong RX8 192 (52) ∈ TB := tb_in (n := 829) (by decide +kernel) rfl
theorem lg_8_219 : Cond.constantLong RX8 219 (10) ∈ TB := tb_in (n := 874) (by decide +kernel) rfl
theorem lg_8_221 : Cond.constantLong RX8 221 (15) ∈ TB := tb_in (n := 875) (by decide +kernel) rfl
theorem lg_8_223 : Cond.constantLong RX8 223 (20) ∈ TB := tb_in (n := 876) (by decide +kernel) rfl
theorem lg_8_225 : Cond.constantLong RX8 225 (24) ∈ TB := tb_in (n := 877) (by decide +kernel) rfl
theorem lg_8_227 : Cond.constantLong RX8 227 (32) ∈ TB := tb_in (n := 878) (by decide +kernel) rfl
theorem lg_8_81 : Cond.constantLong RX8 81 (2) ∈ TB := tb_in (n := 667) (by decide +kernel) rfl
theorem lg_8_87 : Cond.constantLong RX8 87 (12) ∈ TB := tb_in (n := 671) (by decide +kernel) rfl
theorem lg_8_89 : Cond.constantLong RX8 89 (6) ∈ TB := tb_in (n := 672) (by decide +kernel) rfl
theorem lg_8_91 : Cond.constantLong RX8 91 (99) ∈ TB := tb_in (n := 673) (by decide +kernel) rfl
theorem lg_8_99 : Cond.constantLong RX8 99 (4) ∈ TB := tb_in (n := 682) (by decide +kernel) rfl
end
section
/-! lifted by program: SaturdaySaleModel.askedAt, SaturdaySaleModel.in, SaturdaySaleModel.isReady, SaturdaySaleModel.asks, SaturdaySaleModel.beginEnd, SaturdaySaleModel.keepRow, SaturdaySaleModel.worthOf, SaturdaySaleModel.buyer, SaturdaySaleModel.dayAt, SaturdaySaleModel.findBest, SaturdaySaleModel.beginPrice, SaturdaySaleModel.best -/
section LIFT
variable {p : Program} {l : Launch} {e : Env} {s : State} {m : MethodId} {args : Array Value} {below : List Frame} {meth : Method} {c : Code} {g : Gx} {A : Nat → Prop} {H : Heap} {locs : List Loc} {ls : Array Slot}
def X8_askedAt_130  (rc13 : Int32 → Int32 → Option Int32) (k0 : Int32) (x1 : Int32) (x2 : Int32) (x4 : Int32) (st : Sg) : Option Int32 :=
  nm (x4 + (-1)) fun v1 =>
  rc13 k0 v1
def X8_askedAt_112  (rc13 : Int32 → Int32 → Option Int32) (k0 : Int32) (x1 : Int32) (x2 : Int32) (x3 : Int32) (x4 : Int32) (st : Sg) : Option Int32 :=
  if k0 = (0 : Int32) then
    X8_askedAt_130 rc13 x3 x1 x2 x4 st
  else
    cix x4 8 <|
    X8_askedAt_130 rc13 (st.1 18 x4.toNatClampNeg) x1 x2 x4 st
def X8_askedAt_35  (rc13 : Int32 → Int32 → Option Int32) (k0 : Int32) (x1 : Int32) (x2 : Int32) (x3 : Int32) (x4 : Int32) (st : Sg) : Option Int32 :=
  cix x4 8 <|
  nm (st.1 17 x4.toNatClampNeg) fun v2 =>
  cix x4 8 <|
  if (st.1 16 x4.toNatClampNeg) = (60 : Int32) then
    if v2 ≤ k0 then
      X8_askedAt_112 rc13 0 x1 x2 x3 x4 st
    else
      X8_askedAt_112 rc13 1 x1 x2 x3 x4 st
  else
    cix x4 8 <|
    if (st.1 16 x4.toNatClampNeg) = (62 : Int32) then
      if k0 ≤ v2 then
        X8_askedAt_112 rc13 0 x1 x2 x3 x4 st
      else
        X8_askedAt_112 rc13 1 x1 x2 x3 x4 st
    else
      if k0 = v2 then
        X8_askedAt_112 rc13 1 x1 x2 x3 x4 st
      else
        X8_askedAt_112 rc13 0 x1 x2 x3 x4 st
def X8_askedAt_155   (k0 : Int32) (st : Sg) : Option Int32 :=
  some k0
def X8_askedAt_137   (x3 : Int32) (st : Sg) : Option Int32 :=
  if (st.1 0 4) ≤ x3 then
    X8_askedAt_155 ((st.1 0 4) - 1) st
  else
    X8_askedAt_155 x3 st
def X8_askedAt_13b  (rc13 : Int32 → Int32 → Option Int32) (x1 : Int32) (x2 : Int32) (x3 : Int32) (x4 : Int32) (st : Sg) : Option Int32 :=
  if x4 < (0 : Int32) then
    X8_askedAt_137 x3 st
  else
    cix x4 8 <|
    if (st.1 15 x4.toNatClampNeg) = (108 : Int32) then
      X8_askedAt_35 rc13 x2 x1 x2 x3 x4 st
    else
      X8_askedAt_35 rc13 x1 x1 x2 x3 x4 st
def X8_askedAt_13   (x1 : Int32) (x2 : Int32) (st : Sg) : Nat → Int32 → Int32 → Option Int32
  | 0, _, _ => none
  | k + 1, x3, x4 => X8_askedAt_13b   (X8_askedAt_13 x1 x2 st k) x1 x2 x3 x4 st
def X8_askedAt   (x1 : Int32) (x2 : Int32) (st : Sg) : Option Int32 :=
  nm (st.1 0 26) fun v1 =>
  nm ((st.1 0 25) - 1) fun v2 =>
  X8_askedAt_13 x1 x2 st FU v1 v2
abbrev rm_X8_askedAt : Room := { frames := 0, cells := 0, slots := 0, locals := 0 }
set_option maxHeartbeats 4000000 in
set_option maxRecDepth 100000 in
theorem w_X8_askedAt_130 (X : Cx g p s m args meth c cX8_askedAt 8 RX8 (some .int)) {k0 : Int32} {x1 : Int32} {x2 : Int32} {x4 : Int32} {st : Sg} {r9 : Int32} (rc13 : Int32 → Int32 → Option Int32) (hrc13 : ∀ (x3 : Int32) (x4 : Int32) (ls : Array Slot) (H : Heap) (locs : List Loc), rc13 x3 x4 = some r9 → Hp g nwM (ceM g) A s.heap st H locs → lv_has ls 8 [(0, .ref (g.2.1 0)), (1, .int x1), (2, .int x2), (3, .int x3), (4, .int x4)] → W p l e rm_X8_askedAt s m args below meth c H locs 0 0 (MQ below (QI g nwM (ceM g) A r9 st) args s 0 0 A) (F0 m 13 ls [])) (h : X8_askedAt_130 rc13 k0 x1 x2 x4 st = some r9) (Y : Hp g nwM (ceM g) A s.heap st H locs)  (hl : lv_has ls 8 [(0, .ref (g.2.1 0)), (1, .int x1), (2, .int x2), (4, .int x4)]) : W p l e rm_X8_askedAt s m args below meth c H locs 0 0 (MQ below (QI g nwM (ceM g) A r9 st) args s 0 0 A) (F0 m 130 ls [.int k0]) := by
  have hx := X.1
  have hb := X.2.1
  unfold X8_askedAt_130 at h
  refine lv_istore_n (lv' := [(3, .int k0), (0, .ref (g.2.1 0)), (1, .int x1), (2, .int x2), (4, .int x4)]) hx hb dX8_askedAt_130 rfl hl (by decide) rfl (fun ls hl => ?_)
  obtain ⟨v1, ev1, h⟩ := nm_s h
  refine lv_iinc (v := v1) (lv' := [(4, .int v1), (3, .int k0), (0, .ref (g.2.1 0)), (1, .int x1), (2, .int x2)]) hx hb dX8_askedAt_131 hl (k := 4) rfl (by rw [ev1]; rfl) (by decide) rfl (fun ls hl => ?_)
  refine lv_goto (tgt := 13) hx hb dX8_askedAt_134 (by decide) ?_
  exact hrc13 k0 v1 _ _ _ h Y (lv_sub hl [2, 3, 4, 1, 0] rfl)
set_option maxHeartbeats 4000000 in
set_option maxRecDepth 100000 in
theorem w_X8_askedAt_112 (X : Cx g p s m args meth c cX8_askedAt 8 RX8 (some .int)) {k0 : Int32} {x1 : Int32} {x2 : Int32} {x3 : Int32} {x4 : Int32} {st : Sg} {r9 : Int32} (rc13 : Int32 → Int32 → Option Int32) (hrc13 : ∀ (x3 : Int32) (x4 : Int32) (ls : Array Slot) (H : Heap) (locs : List Loc), rc13 x3 x4 = some r9 → Hp g nwM (ceM g) A s.heap st H locs → lv_has ls 8 [(0, .ref (g.2.1 0)), (1, .int x1), (2, .int x2), (3, .int x3), (4, .int x4)] → W p l e rm_X8_askedAt s m args below meth c H locs 0 0 (MQ below (QI g nwM (ceM g) A r9 st) args s 0 0 A) (F0 m 13 ls [])) (h : X8_askedAt_112 rc13 k0 x1 x2 x3 x4 st = some r9) (Y : Hp g nwM (ceM g) A s.heap st H locs)  (hl : lv_has ls 8 [(0, .ref (g.2.1 0)), (1, .int x1), (2, .int x2), (3, .int x3), (4, .int x4)]) : W p l e rm_X8_askedAt s m args below meth c H locs 0 0 (MQ below (QI g nwM (ceM g) A r9 st) args s 0 0 A) (F0 m 112 ls [.int k0]) := by
  have hx := X.1
  have hb := X.2.1
  unfold X8_askedAt_112 at h
  refine lv_istore (lv' := [(7, .int k0), (0, .ref (g.2.1 0)), (1, .int x1), (2, .int x2), (3, .int x3), (4, .int x4)]) hx hb dX8_askedAt_112 hl (by decide) rfl (fun ls hl => ?_)
  refine lv_iload hx hb dX8_askedAt_114 (lv_at hl 0 rfl) ?_
  refine lv_if_eq (tgt := 129) hx hb dX8_askedAt_116 (by decide) (fun c1 => ?_) (fun c1 => ?_)
  · have h := ite_t h c1
    refine lv_iload_n hx hb dX8_askedAt_129 rfl (lv_at hl 4 rfl) ?_
    exact w_X8_askedAt_130 X rc13 hrc13 h Y  (lv_sub hl [1, 2, 3, 5] rfl)
  · have h := ite_f h c1
    refine lv_aload_n hx hb dX8_askedAt_119 rfl (lv_at hl 1 rfl) ?_
    refine k_get (v := .ref (g.2.1 18)) X Y fl_8_62 0 (Nat.le_of_ble_eq_true rfl) rfl rfl dX8_askedAt_120 ?_
    refine lv_iload hx hb dX8_askedAt_123 (lv_at hl 5 rfl) ?_
    obtain ⟨i2, h⟩ := cix_s h
    refine k_iald X Y 18 (Nat.le_of_ble_eq_true rfl) (fun _ _ => rfl) i2 dX8_askedAt_125 ?_
    refine lv_goto (tgt := 130) hx hb dX8_askedAt_126 (by decide) ?_
    exact w_X8_askedAt_130 X rc13 hrc13 h Y  (lv_sub hl [1, 2, 3, 5] rfl)
set_option maxHeartbeats 4000000 in
set_option maxRecDepth 100000 in
theorem w_X8_askedAt_35 (X : Cx g p s m args meth c cX8_askedAt 8 RX8 (some .int)) {k0 : Int32} {x1 : Int32} {x2 : Int32} {x3 : Int32} {x4 : Int32} {st : Sg} {r9 : Int32} (rc13 : Int32 → Int32 → Option Int32) (hrc13 : ∀ (x3 : Int32) (x4 : Int32) (ls : Array Slot) (H : Heap) (locs : List Loc), rc13 x3 x4 = some r9 → Hp g nwM (ceM g) A s.heap st H locs → lv_has ls 8 [(0, .ref (g.2.1 0)), (1, .int x1), (2, .int x2), (3, .int x3), (4, .int x4)] → W p l e rm_X8_askedAt s m args below meth c H locs 0 0 (MQ below (QI g nwM (ceM g) A r9 st) args s 0 0 A) (F0 m 13 ls [])) (h : X8_askedAt_35 rc13 k0 x1 x2 x3 x4 st = some r9) (Y : Hp g nwM (ceM g) A s.heap st H locs)  (hl : lv_has ls 8 [(0, .ref (g.2.1 0)), (1, .int x1), (2, .int x2), (3, .int x3), (4, .int x4)]) : W p l e rm_X8_askedAt s m args below meth c H locs 0 0 (MQ below (QI g nwM (ceM g) A r9 st) args s 0 0 A) (F0 m 35 ls [.int k0]) := by
  have hx := X.1
  have hb := X.2.1
  unfold X8_askedAt_35 at h
  refine lv_istore (lv' := [(5, .int k0), (0, .ref (g.2.1 0)), (1, .int x1), (2, .int x2), (3, .int x3), (4, .int x4)]) hx hb dX8_askedAt_35 hl (by decide) rfl (fun ls hl => ?_)
  refine lv_aload_n hx hb dX8_askedAt_37 rfl (lv_at hl 1 rfl) ?_
  refine k_get (v := .ref (g.2.1 17)) X Y fl_8_59 0 (Nat.le_of_ble_eq_true rfl) rfl rfl dX8_askedAt_38 ?_
  refine lv_iload hx hb dX8_askedAt_41 (lv_at hl 5 rfl) ?_
  obtain ⟨i1, h⟩ := cix_s h
  refine k_iald X Y 17 (Nat.le_of_ble_eq_true rfl) (fun _ _ => rfl) i1 dX8_askedAt_43 ?_
  obtain ⟨v2, ev2, h⟩ := nm_s h
  refine k_nmI ev2 ?_
  refine lv_istore (lv' := [(6, .int v2), (5, .int k0), (0, .ref (g.2.1 0)), (1, .int x1), (2, .int x2), (3, .int x3), (4, .int x4)]) hx hb dX8_askedAt_44 hl (by decide) rfl (fun ls hl => ?_)
  refine lv_aload_n hx hb dX8_askedAt_46 rfl (lv_at hl 2 rfl) ?_
  refine k_get (v := .ref (g.2.1 16)) X Y fl_8_56 0 (Nat.le_of_ble_eq_true rfl) rfl rfl dX8_askedAt_47 ?_
  refine lv_iload hx hb dX8_askedAt_50 (lv_at hl 6 rfl) ?_
  obtain ⟨i3, h⟩ := cix_s h
  refine k_iald X Y 16 (Nat.le_of_ble_eq_true rfl) (fun _ _ => rfl) i3 dX8_askedAt_52 ?_
  refine lv_bipush (v := 60) hx hb dX8_askedAt_53 (by decide) ?_
  refine lv_icmp_ne (tgt := 73) hx hb dX8_askedAt_55 (by decide) (fun c4 => ?_) (fun c4 => ?_)
  · have h := ite_f h c4
    refine lv_aload_n hx hb dX8_askedAt_73 rfl (lv_at hl 2 rfl) ?_
    refine k_get (v := .ref (g.2.1 16)) X Y fl_8_56 0 (Nat.le_of_ble_eq_true rfl) rfl rfl dX8_askedAt_74 ?_
    refine lv_iload hx hb dX8_askedAt_77 (lv_at hl 6 rfl) ?_
    obtain ⟨i5, h⟩ := cix_s h
    refine k_iald X Y 16 (Nat.le_of_ble_eq_true rfl) (fun _ _ => rfl) i5 dX8_askedAt_79 ?_
    refine lv_bipush (v := 62) hx hb dX8_askedAt_80 (by decide) ?_
    refine lv_icmp_ne (tgt := 100) hx hb dX8_askedAt_82 (by decide) (fun c6 => ?_) (fun c6 => ?_)
    · have h := ite_f h c6
      refine lv_iload hx hb dX8_askedAt_100 (lv_at hl 1 rfl) ?_
      refine lv_iload hx hb dX8_askedAt_102 (lv_at hl 0 rfl) ?_
      refine lv_icmp_ne (tgt := 111) hx hb dX8_askedAt_104 (by decide) (fun c7 => ?_) (fun c7 => ?_)
      · have h := ite_f h c7
        refine lv_iconst (v := 0) hx hb dX8_askedAt_111 (by decide) ?_
        exact w_X8_askedAt_112 X rc13 hrc13 h Y  (lv_sub hl [2, 3, 4, 5, 6] rfl)
      · have h := ite_t h c7
        refine lv_iconst (v := 1) hx hb dX8_askedAt_107 (by decide) ?_
        refine lv_goto (tgt := 112) hx hb dX8_askedAt_108 (by decide) ?_
        exact w_X8_askedAt_112 X rc13 hrc13 h Y  (lv_sub hl [2, 3, 4, 5, 6] rfl)
    · have h := ite_t h c6
      refine lv_iload hx hb dX8_askedAt_85 (lv_at hl 1 rfl) ?_
      refine lv_iload hx hb dX8_askedAt_87 (lv_at hl 0 rfl) ?_
      refine lv_icmp_le (tgt := 96) hx hb dX8_askedAt_89 (by decide) (fun c8 => ?_) (fun c8 => ?_)
      · have h := ite_t h c8
        refine lv_iconst (v := 0) hx hb dX8_askedAt_96 (by decide) ?_
        refine lv_goto (tgt := 112) hx hb dX8_askedAt_97 (by decide) ?_
        exact w_X8_askedAt_112 X rc13 hrc13 h Y  (lv_sub hl [2, 3, 4, 5, 6] rfl)
      · have h := ite_f h c8
        refine lv_iconst (v := 1) hx hb dX8_askedAt_92 (by decide) ?_
        refine lv_goto (tgt := 112) hx hb dX8_askedAt_93 (by decide) ?_
        exact w_X8_askedAt_112 X rc13 hrc13 h Y  (lv_sub hl [2, 3, 4, 5, 6] rfl)
  · have h := ite_t h c4
    refine lv_iload hx hb dX8_askedAt_58 (lv_at hl 1 rfl) ?_
    refine lv_iload hx hb dX8_askedAt_60 (lv_at hl 0 rfl) ?_
    refine lv_icmp_ge (tgt := 69) hx hb dX8_askedAt_62 (by decide) (fun c9 => ?_) (fun c9 => ?_)
    · have h := ite_t h c9
      refine lv_iconst (v := 0) hx hb dX8_askedAt_69 (by decide) ?_
      refine lv_goto (tgt := 112) hx hb dX8_askedAt_70 (by decide) ?_
      exact w_X8_askedAt_112 X rc13 hrc13 h Y  (lv_sub hl [2, 3, 4, 5, 6] rfl)
    · have h := ite_f h c9
      refine lv_iconst (v := 1) hx hb dX8_askedAt_65 (by decide) ?_
      refine lv_goto (tgt := 112) hx hb dX8_askedAt_66 (by decide) ?_
      exact w_X8_askedAt_112 X rc13 hrc13 h Y  (lv_sub hl [2, 3, 4, 5, 6] rfl)
set_option maxHeartbeats 4000000 in
set_option maxRecDepth 100000 in
theorem w_X8_askedAt_155 (X : Cx g p s m args meth c cX8_askedAt 8 RX8 (some .int)) {k0 : Int32} {st : Sg} {r9 : Int32}  (h : X8_askedAt_155 k0 st = some r9) (Y : Hp g nwM (ceM g) A s.heap st H locs)  (hl : lv_has ls 8 []) : W p l e rm_X8_askedAt s m args below meth c H locs 0 0 (MQ below (QI g nwM (ceM g) A r9 st) args s 0 0 A) (F0 m 155 ls [.int k0]) := by
  have hx := X.1
  have hb := X.2.1
  unfold X8_askedAt_155 at h
  exact k_iretR X Y h dX8_askedAt_155
set_option maxHeartbeats 4000000 in
set_option maxRecDepth 100000 in
theorem w_X8_askedAt_137 (X : Cx g p s m args meth c cX8_askedAt 8 RX8 (some .int)) {x3 : Int32} {st : Sg} {r9 : Int32}  (h : X8_askedAt_137 x3 st = some r9) (Y : Hp g nwM (ceM g) A s.heap st H locs)  (hl : lv_has ls 8 [(0, .ref (g.2.1 0)), (3, .int x3)]) : W p l e rm_X8_askedAt s m args below meth c H locs 0 0 (MQ below (QI g nwM (ceM g) A r9 st) args s 0 0 A) (F0 m 137 ls []) := by
  have hx := X.1
  have hb := X.2.1
  unfold X8_askedAt_137 at h
  refine lv_iload_n hx hb dX8_askedAt_137 rfl (lv_at hl 1 rfl) ?_
  refine lv_aload_n hx hb dX8_askedAt_138 rfl (lv_at hl 0 rfl) ?_
  refine k_get (v := .int (st.1 0 4)) X Y fl_8_96 0 (Nat.le_of_ble_eq_true rfl) rfl rfl dX8_askedAt_139 ?_
  refine lv_icmp_ge (tgt := 149) hx hb dX8_askedAt_142 (by decide) (fun c1 => ?_) (fun c1 => ?_)
  · have h := ite_t h c1
    refine lv_aload_n hx hb dX8_askedAt_149 rfl (lv_at hl 0 rfl) ?_
    refine k_get (v := .int (st.1 0 4)) X Y fl_8_96 0 (Nat.le_of_ble_eq_true rfl) rfl rfl dX8_askedAt_150 ?_
    refine lv_iconst (v := 1) hx hb dX8_askedAt_153 (by decide) ?_
    refine lv_isub hx hb dX8_askedAt_154 ?_
    exact w_X8_askedAt_155 X  h Y  (lv_sub hl [] rfl)
  · have h := ite_f h c1
    refine lv_iload_n hx hb dX8_askedAt_145 rfl (lv_at hl 1 rfl) ?_
    refine lv_goto (tgt := 155) hx hb dX8_askedAt_146 (by decide) ?_
    exact w_X8_askedAt_155 X  h Y  (lv_sub hl [] rfl)
set_option maxHeartbeats 4000000 in
set_option maxRecDepth 100000 in
theorem w_X8_askedAt_13b (X : Cx g p s m args meth c cX8_askedAt 8 RX8 (some .int)) {x1 : Int32} {x2 : Int32} {x3 : Int32} {x4 : Int32} {st : Sg} {r9 : Int32} (rc13 : Int32 → Int32 → Option Int32) (hrc13 : ∀ (x3 : Int32) (x4 : Int32) (ls : Array Slot) (H : Heap) (locs : List Loc), rc13 x3 x4 = some r9 → Hp g nwM (ceM g) A s.heap st H locs → lv_has ls 8 [(0, .ref (g.2.1 0)), (1, .int x1), (2, .int x2), (3, .int x3), (4, .int x4)] → W p l e rm_X8_askedAt s m args below meth c H locs 0 0 (MQ below (QI g nwM (ceM g) A r9 st) args s 0 0 A) (F0 m 13 ls [])) (h : X8_askedAt_13b rc13 x1 x2 x3 x4 st = some r9) (Y : Hp g nwM (ceM g) A s.heap st H locs)  (hl : lv_has ls 8 [(0, .ref (g.2.1 0)), (1, .int x1), (2, .int x2), (3, .int x3), (4, .int x4)]) : W p l e rm_X8_askedAt s m args below meth c H locs 0 0 (MQ below (QI g nwM (ceM g) A r9 st) args s 0 0 A) (F0 m 13 ls []) := by
  have hx := X.1
  have hb := X.2.1
  unfold X8_askedAt_13b at h
  refine lv_iload hx hb dX8_askedAt_13 (lv_at hl 4 rfl) ?_
  refine lv_if_lt (tgt := 137) hx hb dX8_askedAt_15 (by decide) (fun c1 => ?_) (fun c1 => ?_)
  · have h := ite_t h c1
    exact w_X8_askedAt_137 X  h Y  (lv_sub hl [0, 3] rfl)
  · have h := ite_f h c1
    refine lv_aload_n hx hb dX8_askedAt_18 rfl (lv_at hl 0 rfl) ?_
    refine k_get (v := .ref (g.2.1 15)) X Y fl_8_53 0 (Nat.le_of_ble_eq_true rfl) rfl rfl dX8_askedAt_19 ?_
    refine lv_iload hx hb dX8_askedAt_22 (lv_at hl 4 rfl) ?_
    obtain ⟨i2, h⟩ := cix_s h
    refine k_iald X Y 15 (Nat.le_of_ble_eq_true rfl) (fun _ _ => rfl) i2 dX8_askedAt_24 ?_
    refine lv_bipush (v := 108) hx hb dX8_askedAt_25 (by decide) ?_
    refine lv_icmp_ne (tgt := 34) hx hb dX8_askedAt_27 (by decide) (fun c3 => ?_) (fun c3 => ?_)
    · have h := ite_f h c3
      refine lv_iload_n hx hb dX8_askedAt_34 rfl (lv_at hl 1 rfl) ?_
      exact w_X8_askedAt_35 X rc13 hrc13 h Y  (lv_sub hl [0, 1, 2, 3, 4] rfl)
    · have h := ite_t h c3
      refine lv_iload_n hx hb dX8_askedAt_30 rfl (lv_at hl 2 rfl) ?_
      refine lv_goto (tgt := 35) hx hb dX8_askedAt_31 (by decide) ?_
      exact w_X8_askedAt_35 X rc13 hrc13 h Y  (lv_sub hl [0, 1, 2, 3, 4] rfl)
theorem w_X8_askedAt_13 (X : Cx g p s m args meth c cX8_askedAt 8 RX8 (some .int)) {x1 : Int32} {x2 : Int32} {st : Sg} {r9 : Int32}   : ∀ (k : Nat) (x3 : Int32) (x4 : Int32) (ls : Array Slot) (H : Heap) (locs : List Loc), X8_askedAt_13 x1 x2 st k x3 x4 = some r9 → Hp g nwM (ceM g) A s.heap st H locs → lv_has ls 8 [(0, .ref (g.2.1 0)), (1, .int x1), (2, .int x2), (3, .int x3), (4, .int x4)] → W p l e rm_X8_askedAt s m args below meth c H locs 0 0 (MQ below (QI g nwM (ceM g) A r9 st) args s 0 0 A) (F0 m 13 ls []) := by
  intro k
  induction k with
  | zero =>
    intro x3 x4 ls H locs h
    exact none_s h
  | succ k ih =>
    intro x3 x4 ls H locs h Y hl
    exact w_X8_askedAt_13b X  (X8_askedAt_13 x1 x2 st k) ih h Y  hl
set_option maxHeartbeats 4000000 in
set_option maxRecDepth 100000 in
theorem w_X8_askedAt (X : Cx g p s m args meth c cX8_askedAt 8 RX8 (some .int)) {x1 : Int32} {x2 : Int32} {st : Sg} {r9 : Int32}  (h : X8_askedAt x1 x2 st = some r9) (Y : Hp g nwM (ceM g) A s.heap st H locs)  (hl : lv_has ls 8 [(0, .ref (g.2.1 0)), (1, .int x1), (2, .int x2)]) : W p l e rm_X8_askedAt s m args below meth c H locs 0 0 (MQ below (QI g nwM (ceM g) A r9 st) args s 0 0 A) (F0 m 0 ls []) := by
  have hx := X.1
  have hb := X.2.1
  unfold X8_askedAt at h
  refine lv_aload_n hx hb dX8_askedAt_0 rfl (lv_at hl 0 rfl) ?_
  refine k_get (v := .int (st.1 0 26)) X Y fl_8_65 0 (Nat.le_of_ble_eq_true rfl) rfl rfl dX8_askedAt_1 ?_
  obtain ⟨v1, ev1, h⟩ := nm_s h
  refine k_nmI ev1 ?_
  refine lv_istore_n (lv' := [(3, .int v1), (0, .ref (g.2.1 0)), (1, .int x1), (2, .int x2)]) hx hb dX8_askedAt_4 rfl hl (by decide) rfl (fun ls hl => ?_)
  refine lv_aload_n hx hb dX8_askedAt_5 rfl (lv_at hl 1 rfl) ?_
  refine k_get (v := .int (st.1 0 25)) X Y fl_8_204 0 (Nat.le_of_ble_eq_true rfl) rfl rfl dX8_askedAt_6 ?_
  refine lv_iconst (v := 1) hx hb dX8_askedAt_9 (by decide) ?_
  refine lv_isub hx hb dX8_askedAt_10 ?_
  obtain ⟨v2, ev2, h⟩ := nm_s h
  refine k_nmI ev2 ?_
  refine lv_istore (lv' := [(4, .int v2), (3, .int v1), (0, .ref (g.2.1 0)), (1, .int x1), (2, .int x2)]) hx hb dX8_askedAt_11 hl (by decide) rfl (fun ls hl => ?_)
  exact w_X8_askedAt_13 X   FU v1 v2 _ _ _ h Y (lv_sub hl [2, 3, 4, 1, 0] rfl)
theorem c_X8_askedAt (l : Launch) {g : Gx} {x1 : Int32} {x2 : Int32} {st : Sg} {r9 : Int32} (h : X8_askedAt x1 x2 st = some r9) : MetI l yX8_askedAt cX8_askedAt 8 (some .int) rm_X8_askedAt g nwM (ceM g) [.ref (g.2.1 0), .int x1, .int x2] st r9 st :=
  met_of (Qc := fun A => QI g nwM (ceM g) A r9 st) (by decide) (Nat.le_of_ble_eq_true rfl) (fun p e s m below meth c A ls X Y hl => w_X8_askedAt X h Y hl)
def X8_in_18   (k0 : Int32) : Option Int32 :=
  cb01 k0 <| some k0
def X8_in_17    : Option Int32 :=
  X8_in_18 0
def X8_in   (x0 : Int64) (x2 : Int64) (x4 : Int64) : Option Int32 :=
  if (lg_cmp x0 x2) < (0 : Int32) then
    X8_in_17
  else
    if (0 : Int32) < (lg_cmp x0 x4) then
      X8_in_17
    else
      X8_in_18 1
abbrev rm_X8_in : Room := { frames := 0, cells := 0, slots := 0, locals := 0 }
set_option maxHeartbeats 4000000 in
set_option maxRecDepth 100000 in
theorem w_X8_in_18 (X : Cx g p s m args meth c cX8_in 6 RX8 (some .boolean)) {k0 : Int32} {st : Sg} {r9 : Int32}  (h : X8_in_18 k0 = some r9) (Y : Hp g nwM (ceM g) A s.heap st H locs)  (hl : lv_has ls 6 []) : W p l e rm_X8_in s m args below meth c H locs 0 0 (MQ below (QI g nwM (ceM g) A r9 st) args s 0 0 A) (F0 m 18 ls [.int k0]) := by
  have hx := X.1
  have hb := X.2.1
  unfold X8_in_18 at h
  obtain ⟨b1, h⟩ := cb01_s h
  exact k_zretR X Y b1 h dX8_in_18
set_option maxHeartbeats 4000000 in
set_option maxRecDepth 100000 in
theorem w_X8_in_17 (X : Cx g p s m args meth c cX8_in 6 RX8 (some .boolean))  {st : Sg} {r9 : Int32}  (h : X8_in_17 = some r9) (Y : Hp g nwM (ceM g) A s.heap st H locs)  (hl : lv_has ls 6 []) : W p l e rm_X8_in s m args below meth c H locs 0 0 (MQ below (QI g nwM (ceM g) A r9 st) args s 0 0 A) (F0 m 17 ls []) := by
  have hx := X.1
  have hb := X.2.1
  unfold X8_in_17 at h
  refine lv_iconst (v := 0) hx hb dX8_in_17 (by decide) ?_
  exact w_X8_in_18 X  h Y  (lv_sub hl [] rfl)
set_option maxHeartbeats 4000000 in
set_option maxRecDepth 100000 in
theorem w_X8_in (X : Cx g p s m args meth c cX8_in 6 RX8 (some .boolean)) {x0 : Int64} {x2 : Int64} {x4 : Int64} {st : Sg} {r9 : Int32}  (h : X8_in x0 x2 x4 = some r9) (Y : Hp g nwM (ceM g) A s.heap st H locs)  (hl : lv_has ls 6 [(0, .long x0), (2, .long x2), (4, .long x4)]) : W p l e rm_X8_in s m args below meth c H locs 0 0 (MQ below (QI g nwM (ceM g) A r9 st) args s 0 0 A) (F0 m 0 ls []) := by
  have hx := X.1
  have hb := X.2.1
  unfold X8_in at h
  refine lv_lload_n hx hb dX8_in_0 rfl (lv_at hl 0 rfl) ?_
  refine lv_lload_n hx hb dX8_in_1 rfl (lv_at hl 1 rfl) ?_
  refine W.lcmp hx hb dX8_in_2 ?_
  refine lv_if_lt (tgt := 17) hx hb dX8_in_3 (by decide) (fun c1 => ?_) (fun c1 => ?_)
  · have h := ite_t h c1
    exact w_X8_in_17 X  h Y  (lv_sub hl [] rfl)
  · have h := ite_f h c1
    refine lv_lload_n hx hb dX8_in_6 rfl (lv_at hl 0 rfl) ?_
    refine lv_lload hx hb dX8_in_7 (lv_at hl 2 rfl) ?_
    refine W.lcmp hx hb dX8_in_9 ?_
    refine lv_if_gt (tgt := 17) hx hb dX8_in_10 (by decide) (fun c2 => ?_) (fun c2 => ?_)
    · have h := ite_t h c2
      exact w_X8_in_17 X  h Y  (lv_sub hl [] rfl)
    · have h := ite_f h c2
      refine lv_iconst (v := 1) hx hb dX8_in_13 (by decide) ?_
      refine lv_goto (tgt := 18) hx hb dX8_in_14 (by decide) ?_
      exact w_X8_in_18 X  h Y  (lv_sub hl [] rfl)
theorem c_X8_in (l : Launch) {g : Gx} {x0 : Int64} {x2 : Int64} {x4 : Int64} {st : Sg} {r9 : Int32} (h : X8_in x0 x2 x4 = some r9) : MetI l yX8_in cX8_in 6 (some .boolean) rm_X8_in g nwM (ceM g) [.long x0, .long x2, .long x4] st r9 st :=
  met_of (Qc := fun A => QI g nwM (ceM g) A r9 st) (by decide) (Nat.le_of_ble_eq_true rfl) (fun p e s m below meth c A ls X Y hl => w_X8_in X h Y hl)
def X8_isReady_19   (k0 : Int32) (st : Sg) : Option Int32 :=
  cb01 k0 <| some k0
def X8_isReady_18    (st : Sg) : Option Int32 :=
  X8_isReady_19 0 st
def X8_isReady    (st : Sg) : Option Int32 :=
  if (st.1 0 4) ≤ (0 : Int32) then
    X8_isReady_18 st
  else
    if (st.1 0 26) < (0 : Int32) then
      X8_isReady_18 st
    else
      X8_isReady_19 1 st
abbrev rm_X8_isReady : Room := { frames := 0, cells := 0, slots := 0, locals := 0 }
set_option maxHeartbeats 4000000 in
set_option maxRecDepth 100000 in
theorem w_X8_isReady_19 (X : Cx g p s m args meth c cX8_isReady 1 RX8 (some .boolean)) {k0 : Int32} {st : Sg} {r9 : Int32}  (h : X8_isReady_19 k0 st = some r9) (Y : Hp g nwM (ceM g) A s.heap st H locs)  (hl : lv_has ls 1 []) : W p l e rm_X8_isReady s m args below meth c H locs 0 0 (MQ below (QI g nwM (ceM g) A r9 st) args s 0 0 A) (F0 m 19 ls [.int k0]) := by
  have hx := X.1
  have hb := X.2.1
  unfold X8_isReady_19 at h
  obtain ⟨b1, h⟩ := cb01_s h
  exact k_zretR X Y b1 h dX8_isReady_19
set_option maxHeartbeats 4000000 in
set_option maxRecDepth 100000 in
theorem w_X8_isReady_18 (X : Cx g p s m args meth c cX8_isReady 1 RX8 (some .boolean))  {st : Sg} {r9 : Int32}  (h : X8_isReady_18 st = some r9) (Y : Hp g nwM (ceM g) A s.heap st H locs)  (hl : lv_has ls 1 []) : W p l e rm_X8_isReady s m args below meth c H locs 0 0 (MQ below (QI g nwM (ceM g) A r9 st) args s 0 0 A) (F0 m 18 ls []) := by
  have hx := X.1
  have hb := X.2.1
  unfold X8_isReady_18 at h
  refine lv_iconst (v := 0) hx hb dX8_isReady_18 (by decide) ?_
  exact w_X8_isReady_19 X  h Y  (lv_sub hl [] rfl)
set_option maxHeartbeats 4000000 in
set_option maxRecDepth 100000 in
theorem w_X8_isReady (X : Cx g p s m args meth c cX8_isReady 1 RX8 (some .boolean))  {st : Sg} {r9 : Int32}  (h : X8_isReady st = some r9) (Y : Hp g nwM (ceM g) A s.heap st H locs)  (hl : lv_has ls 1 [(0, .ref (g.2.1 0))]) : W p l e rm_X8_isReady s m args below meth c H locs 0 0 (MQ below (QI g nwM (ceM g) A r9 st) args s 0 0 A) (F0 m 0 ls []) := by
  have hx := X.1
  have hb := X.2.1
  unfold X8_isReady at h
  refine lv_aload_n hx hb dX8_isReady_0 rfl (lv_at hl 0 rfl) ?_
  refine k_get (v := .int (st.1 0 4)) X Y fl_8_96 0 (Nat.le_of_ble_eq_true rfl) rfl rfl dX8_isReady_1 ?_
  refine lv_if_le (tgt := 18) hx hb dX8_isReady_4 (by decide) (fun c1 => ?_) (fun c1 => ?_)
  · have h := ite_t h c1
    exact w_X8_isReady_18 X  h Y  (lv_sub hl [] rfl)
  · have h := ite_f h c1
    refine lv_aload_n hx hb dX8_isReady_7 rfl (lv_at hl 0 rfl) ?_
    refine k_get (v := .int (st.1 0 26)) X Y fl_8_65 0 (Nat.le_of_ble_eq_true rfl) rfl rfl dX8_isReady_8 ?_
    refine lv_if_lt (tgt := 18) hx hb dX8_isReady_11 (by decide) (fun c2 => ?_) (fun c2 => ?_)
    · have h := ite_t h c2
      exact w_X8_isReady_18 X  h Y  (lv_sub hl [] rfl)
    · have h := ite_f h c2
      refine lv_iconst (v := 1) hx hb dX8_isReady_14 (by decide) ?_
      refine lv_goto (tgt := 19) hx hb dX8_isReady_15 (by decide) ?_
      exact w_X8_isReady_19 X  h Y  (lv_sub hl [] rfl)
theorem c_X8_isReady (l : Launch) {g : Gx}  {st : Sg} {r9 : Int32} (h : X8_isReady st = some r9) : MetI l yX8_isReady cX8_isReady 1 (some .boolean) rm_X8_isReady g nwM (ceM g) [.ref (g.2.1 0)] st r9 st :=
  met_of (Qc := fun A => QI g nwM (ceM g) A r9 st) (by decide) (Nat.le_of_ble_eq_true rfl) (fun p e s m below meth c A ls X Y hl => w_X8_isReady X h Y hl)
def X8_asks_24    (st : Sg) : Option Int32 :=
  some (-2)
def X8_asks_45   (k0 : Int32) (st : Sg) : Option Int32 :=
  some k0
def X8_asks   (x1 : Int32) (x2 : Int32) (st : Sg) : Option Int32 :=
  bnd1 (X8_in (x1.toInt64) 0 5) fun v2 =>
  if v2 = (0 : Int32) then
    X8_asks_24 st
  else
    bnd1 (X8_in (x2.toInt64) 0 12) fun v5 =>
    if v5 = (0 : Int32) then
      X8_asks_24 st
    else
      bnd1 (X8_isReady st) fun v8 =>
      if v8 = (0 : Int32) then
        X8_asks_45 (-3) st
      else
        bnd1 (X8_askedAt x1 x2 st) fun v11 =>
        X8_asks_45 v11 st
abbrev rm_X8_asks : Room := { frames := 1, cells := 0, slots := 0, locals := 27 }
set_option maxHeartbeats 4000000 in
set_option maxRecDepth 100000 in
theorem w_X8_asks_24 (X : Cx g p s m args meth c cX8_asks 3 RX8 (some .int))  {st : Sg} {r9 : Int32}  (h : X8_asks_24 st = some r9) (Y : Hp g nwM (ceM g) A s.heap st H locs)  (hl : lv_has ls 3 []) : W p l e rm_X8_asks s m args below meth c H locs 0 0 (MQ below (QI g nwM (ceM g) A r9 st) args s 0 0 A) (F0 m 24 ls []) := by
  have hx := X.1
  have hb := X.2.1
  unfold X8_asks_24 at h
  refine lv_bipush (v := (-2)) hx hb dX8_asks_24 (by decide) ?_
  exact k_iretR X Y h dX8_asks_26
set_option maxHeartbeats 4000000 in
set_option maxRecDepth 100000 in
theorem w_X8_asks_45 (X : Cx g p s m args meth c cX8_asks 3 RX8 (some .int)) {k0 : Int32} {st : Sg} {r9 : Int32}  (h : X8_asks_45 k0 st = some r9) (Y : Hp g nwM (ceM g) A s.heap st H locs)  (hl : lv_has ls 3 []) : W p l e rm_X8_asks s m args below meth c H locs 0 0 (MQ below (QI g nwM (ceM g) A r9 st) args s 0 0 A) (F0 m 45 ls [.int k0]) := by
  have hx := X.1
  have hb := X.2.1
  unfold X8_asks_45 at h
  exact k_iretR X Y h dX8_asks_45
set_option maxHeartbeats 4000000 in
set_option maxRecDepth 100000 in
theorem w_X8_asks (X : Cx g p s m args meth c cX8_asks 3 RX8 (some .int)) {x1 : Int32} {x2 : Int32} {st : Sg} {r9 : Int32}  (h : X8_asks x1 x2 st = some r9) (Y : Hp g nwM (ceM g) A s.heap st H locs)  (hl : lv_has ls 3 [(0, .ref (g.2.1 0)), (1, .int x1), (2, .int x2)]) : W p l e rm_X8_asks s m args below meth c H locs 0 0 (MQ below (QI g nwM (ceM g) A r9 st) args s 0 0 A) (F0 m 0 ls []) := by
  have hx := X.1
  have hb := X.2.1
  unfold X8_asks at h
  refine lv_iload_n hx hb dX8_asks_0 rfl (lv_at hl 1 rfl) ?_
  refine lv_i2l hx hb dX8_asks_1 rfl ?_
  refine lv_lconst (v := 0) hx hb dX8_asks_2 (by decide) ?_
  refine k_ldc2 X lg_8_114 dX8_asks_3 ?_
  obtain ⟨v2, hc1, h⟩ := bnd1_s h
  refine k_cI Y (k_runS (As := [.long (x1.toInt64), .long 0, .long 5]) (rest := []) X Y cl_8_83 (c_X8_in l hc1 _) ⟨rfl, rfl, Nat.le_of_ble_eq_true rfl, Nat.le_of_ble_eq_true rfl⟩ rfl hl.1 rfl (Nat.le_of_ble_eq_true rfl) dX8_asks_6 ⟨Nat.zero_le _, Nat.zero_le _⟩) (fun H locs Y => ?_)
  refine lv_if_eq (tgt := 24) hx hb dX8_asks_9 (by decide) (fun c3 => ?_) (fun c3 => ?_)
  · have h := ite_t h c3
    exact w_X8_asks_24 X  h Y  (lv_sub hl [] rfl)
  · have h := ite_f h c3
    refine lv_iload_n hx hb dX8_asks_12 rfl (lv_at hl 2 rfl) ?_
    refine lv_i2l hx hb dX8_asks_13 rfl ?_
    refine lv_lconst (v := 0) hx hb dX8_asks_14 (by decide) ?_
    refine k_ldc2 X lg_8_87 dX8_asks_15 ?_
    obtain ⟨v5, hc4, h⟩ := bnd1_s h
    refine k_cI Y (k_runS (As := [.long (x2.toInt64), .long 0, .long 12]) (rest := []) X Y cl_8_83 (c_X8_in l hc4 _) ⟨rfl, rfl, Nat.le_of_ble_eq_true rfl, Nat.le_of_ble_eq_true rfl⟩ rfl hl.1 rfl (Nat.le_of_ble_eq_true rfl) dX8_asks_18 ⟨Nat.zero_le _, Nat.zero_le _⟩) (fun H locs Y => ?_)
    refine lv_if_ne (tgt := 27) hx hb dX8_asks_21 (by decide) (fun c6 => ?_) (fun c6 => ?_)
    · have h := ite_f h c6
      refine lv_aload_n hx hb dX8_asks_27 rfl (lv_at hl 0 rfl) ?_
      obtain ⟨v8, hc7, h⟩ := bnd1_s h
      refine k_cI Y (k_runV (As := []) (rest := []) (o := 0) X Y cl_8_207 (c_X8_isReady l hc7 _) ⟨rfl, rfl, Nat.le_of_ble_eq_true rfl, Nat.le_of_ble_eq_true rfl⟩ (Nat.le_of_ble_eq_true rfl) rfl rfl hl.1 rfl (Nat.le_of_ble_eq_true rfl) dX8_asks_28 ⟨Nat.zero_le _, Nat.zero_le _⟩) (fun H locs Y => ?_)
      refine lv_if_eq (tgt := 43) hx hb dX8_asks_31 (by decide) (fun c9 => ?_) (fun c9 => ?_)
      · have h := ite_t h c9
        refine lv_bipush (v := (-3)) hx hb dX8_asks_43 (by decide) ?_
        exact w_X8_asks_45 X  h Y  (lv_sub hl [] rfl)
      · have h := ite_f h c9
        refine lv_aload_n hx hb dX8_asks_34 rfl (lv_at hl 0 rfl) ?_
        refine lv_iload_n hx hb dX8_asks_35 rfl (lv_at hl 1 rfl) ?_
        refine lv_iload_n hx hb dX8_asks_36 rfl (lv_at hl 2 rfl) ?_
        obtain ⟨v11, hc10, h⟩ := bnd1_s h
        refine k_cI Y (k_runV (As := [.int x1, .int x2]) (rest := []) (o := 0) X Y cl_8_210 (c_X8_askedAt l hc10 _) ⟨rfl, rfl, Nat.le_of_ble_eq_true rfl, Nat.le_of_ble_eq_true rfl⟩ (Nat.le_of_ble_eq_true rfl) rfl rfl hl.1 rfl (Nat.le_of_ble_eq_true rfl) dX8_asks_37 ⟨Nat.zero_le _, Nat.zero_le _⟩) (fun H locs Y => ?_)
        refine lv_goto (tgt := 45) hx hb dX8_asks_40 (by decide) ?_
        exact w_X8_asks_45 X  h Y  (lv_sub hl [] rfl)
    · have h := ite_t h c6
      exact w_X8_asks_24 X  h Y  (lv_sub hl [] rfl)
theorem c_X8_asks (l : Launch) {g : Gx} {x1 : Int32} {x2 : Int32} {st : Sg} {r9 : Int32} (h : X8_asks x1 x2 st = some r9) : MetI l yX8_asks cX8_asks 3 (some .int) rm_X8_asks g nwM (ceM g) [.ref (g.2.1 0), .int x1, .int x2] st r9 st :=
  met_of (Qc := fun A => QI g nwM (ceM g) A r9 st) (by decide) (Nat.le_of_ble_eq_true rfl) (fun p e s m below meth c A ls X Y hl => w_X8_asks X h Y hl)
def X8_beginEnd_33    (st : Sg) : Option Sg :=
  some st
def X8_beginEnd_7b  (rc7 : Int32 → Sg → Option Sg) (x1 : Int32) (st : Sg) : Option Sg :=
  if (12 : Int32) < x1 then
    X8_beginEnd_33 st
  else
    cix x1 13 <|
    nm (sJ st 7 x1.toNatClampNeg (((st.1 0 2).toInt64) * (x1.toInt64))) fun st3 =>
    nm (x1 + 1) fun v4 =>
    rc7 v4 st3
def X8_beginEnd_7    : Nat → Int32 → Sg → Option Sg
  | 0, _, _ => none
  | k + 1, x1, st => X8_beginEnd_7b   (X8_beginEnd_7 k) x1 st
def X8_beginEnd    (st : Sg) : Option Sg :=
  nm (sJ st 0 12 1) fun st1 =>
  X8_beginEnd_7 FU 0 st1
abbrev rm_X8_beginEnd : Room := { frames := 0, cells := 0, slots := 0, locals := 0 }
set_option maxHeartbeats 4000000 in
set_option maxRecDepth 100000 in
theorem w_X8_beginEnd_33 (X : Cx g p s m args meth c cX8_beginEnd 2 RX8 none)  {st : Sg} {st9 : Sg}  (h : X8_beginEnd_33 st = some st9) (Y : Hp g nwM (ceM g) A s.heap st H locs)  (hl : lv_has ls 2 []) : W p l e rm_X8_beginEnd s m args below meth c H locs 0 0 (MQ below (QV g nwM (ceM g) A st9) args s 0 0 A) (F0 m 33 ls []) := by
  have hx := X.1
  have hb := X.2.1
  unfold X8_beginEnd_33 at h
  exact k_vretW X Y h dX8_beginEnd_33
set_option maxHeartbeats 4000000 in
set_option maxRecDepth 100000 in
theorem w_X8_beginEnd_7b (X : Cx g p s m args meth c cX8_beginEnd 2 RX8 none) {x1 : Int32} {st : Sg} {st9 : Sg} (rc7 : Int32 → Sg → Option Sg) (hrc7 : ∀ (x1 : Int32) (st : Sg) (ls : Array Slot) (H : Heap) (locs : List Loc), rc7 x1 st = some st9 → Hp g nwM (ceM g) A s.heap st H locs → lv_has ls 2 [(0, .ref (g.2.1 0)), (1, .int x1)] → W p l e rm_X8_beginEnd s m args below meth c H locs 0 0 (MQ below (QV g nwM (ceM g) A st9) args s 0 0 A) (F0 m 7 ls [])) (h : X8_beginEnd_7b rc7 x1 st = some st9) (Y : Hp g nwM (ceM g) A s.heap st H locs)  (hl : lv_has ls 2 [(0, .ref (g.2.1 0)), (1, .int x1)]) : W p l e rm_X8_beginEnd s m args below meth c H locs 0 0 (MQ below (QV g nwM (ceM g) A st9) args s 0 0 A) (F0 m 7 ls []) := by
  have hx := X.1
  have hb := X.2.1
  unfold X8_beginEnd_7b at h
  refine lv_iload_n hx hb dX8_beginEnd_7 rfl (lv_at hl 1 rfl) ?_
  refine lv_bipush (v := 12) hx hb dX8_beginEnd_8 (by decide) ?_
  refine lv_icmp_gt (tgt := 33) hx hb dX8_beginEnd_10 (by decide) (fun c1 => ?_) (fun c1 => ?_)
  · have h := ite_t h c1
    exact w_X8_beginEnd_33 X  h Y  (lv_sub hl [] rfl)
  · have h := ite_f h c1
    refine lv_aload_n hx hb dX8_beginEnd_13 rfl (lv_at hl 0 rfl) ?_
    refine k_get (v := .ref (g.2.1 7)) X Y fl_8_28 0 (Nat.le_of_ble_eq_true rfl) rfl rfl dX8_beginEnd_14 ?_
    refine lv_iload_n hx hb dX8_beginEnd_17 rfl (lv_at hl 1 rfl) ?_
    refine lv_aload_n hx hb dX8_beginEnd_18 rfl (lv_at hl 0 rfl) ?_
    refine k_get (v := .int (st.1 0 2)) X Y fl_8_93 0 (Nat.le_of_ble_eq_true rfl) rfl rfl dX8_beginEnd_19 ?_
    refine lv_i2l hx hb dX8_beginEnd_22 rfl ?_
    refine lv_iload_n hx hb dX8_beginEnd_23 rfl (lv_at hl 1 rfl) ?_
    refine lv_i2l hx hb dX8_beginEnd_24 rfl ?_
    refine lv_lmul hx hb dX8_beginEnd_25 ?_
    obtain ⟨i2, h⟩ := cix_s h
    refine k_last X Y 7 (Nat.le_of_ble_eq_true rfl) (fun _ _ => rfl) i2 dX8_beginEnd_26 (fun H locs Y => ?_)
    obtain ⟨st3, est3, h⟩ := nm_s h
    have Y : Hp g nwM (ceM g) A s.heap st3 H locs := by rw [est3]; exact Y
    obtain ⟨v4, ev4, h⟩ := nm_s h
    refine lv_iinc (v := v4) (lv' := [(1, .int v4), (0, .ref (g.2.1 0))]) hx hb dX8_beginEnd_27 hl (k := 1) rfl (by rw [ev4]; rfl) (by decide) rfl (fun ls hl => ?_)
    refine lv_goto (tgt := 7) hx hb dX8_beginEnd_30 (by decide) ?_
    exact hrc7 v4 st3 _ _ _ h Y (lv_sub hl [1, 0] rfl)
theorem w_X8_beginEnd_7 (X : Cx g p s m args meth c cX8_beginEnd 2 RX8 none)   {st9 : Sg}   : ∀ (k : Nat) (x1 : Int32) (st : Sg) (ls : Array Slot) (H : Heap) (locs : List Loc), X8_beginEnd_7 k x1 st = some st9 → Hp g nwM (ceM g) A s.heap st H locs → lv_has ls 2 [(0, .ref (g.2.1 0)), (1, .int x1)] → W p l e rm_X8_beginEnd s m args below meth c H locs 0 0 (MQ below (QV g nwM (ceM g) A st9) args s 0 0 A) (F0 m 7 ls []) := by
  intro k
  induction k with
  | zero =>
    intro x1 st ls H locs h
    exact none_s h
  | succ k ih =>
    intro x1 st ls H locs h Y hl
    exact w_X8_beginEnd_7b X  (X8_beginEnd_7 k) ih h Y  hl
set_option maxHeartbeats 4000000 in
set_option maxRecDepth 100000 in
theorem w_X8_beginEnd (X : Cx g p s m args meth c cX8_beginEnd 2 RX8 none)  {st : Sg} {st9 : Sg}  (h : X8_beginEnd st = some st9) (Y : Hp g nwM (ceM g) A s.heap st H locs)  (hl : lv_has ls 2 [(0, .ref (g.2.1 0))]) : W p l e rm_X8_beginEnd s m args below meth c H locs 0 0 (MQ below (QV g nwM (ceM g) A st9) args s 0 0 A) (F0 m 0 ls []) := by
  have hx := X.1
  have hb := X.2.1
  unfold X8_beginEnd at h
  refine lv_aload_n hx hb dX8_beginEnd_0 rfl (lv_at hl 0 rfl) ?_
  refine lv_lconst (v := 1) hx hb dX8_beginEnd_1 (by decide) ?_
  refine k_putJ X Y fl_8_120 0 (Nat.le_of_ble_eq_true rfl) rfl (Nat.le_of_ble_eq_true rfl) rfl dX8_beginEnd_2 (fun H locs Y => ?_)
  obtain ⟨st1, est1, h⟩ := nm_s h
  have Y : Hp g nwM (ceM g) A s.heap st1 H locs := by rw [est1]; exact Y
  refine lv_iconst (v := 0) hx hb dX8_beginEnd_5 (by decide) ?_
  refine lv_istore_n (lv' := [(1, .int 0), (0, .ref (g.2.1 0))]) hx hb dX8_beginEnd_6 rfl hl (by decide) rfl (fun ls hl => ?_)
  exact w_X8_beginEnd_7 X   FU 0 st1 _ _ _ h Y (lv_sub hl [1, 0] rfl)
theorem c_X8_beginEnd (l : Launch) {g : Gx}  {st : Sg} {st9 : Sg} (h : X8_beginEnd st = some st9) : MetV l yX8_beginEnd cX8_beginEnd 2 none rm_X8_beginEnd g nwM (ceM g) [.ref (g.2.1 0)] st st9 :=
  met_of (Qc := fun A => QV g nwM (ceM g) A st9) (by decide) (Nat.le_of_ble_eq_true rfl) (fun p e s m below meth c A ls X Y hl => w_X8_beginEnd X h Y hl)
def X8_keepRow_31    (st : Sg) : Option Sg :=
  some st
def X8_keepRow_2b  (rc2 : Int32 → Sg → Option Sg) (x1 : Int32) (x2 : Int32) (st : Sg) : Option Sg :=
  if (12 : Int32) < x2 then
    X8_keepRow_31 st
  else
    cix x2 13 <|
    cix ((13 * x1) + x2) 91 <|
    nm (sJ st 8 ((13 * x1) + x2).toNatClampNeg (st.2 7 x2.toNatClampNeg)) fun st4 =>
    nm (x2 + 1) fun v5 =>
    rc2 v5 st4
def X8_keepRow_2   (x1 : Int32) : Nat → Int32 → Sg → Option Sg
  | 0, _, _ => none
  | k + 1, x2, st => X8_keepRow_2b   (X8_keepRow_2 x1 k) x1 x2 st
def X8_keepRow   (x1 : Int32) (st : Sg) : Option Sg :=
  X8_keepRow_2 x1 FU 0 st
abbrev rm_X8_keepRow : Room := { frames := 0, cells := 0, slots := 0, locals := 0 }
set_option maxHeartbeats 4000000 in
set_option maxRecDepth 100000 in
theorem w_X8_keepRow_31 (X : Cx g p s m args meth c cX8_keepRow 3 RX8 none)  {st : Sg} {st9 : Sg}  (h : X8_keepRow_31 st = some st9) (Y : Hp g nwM (ceM g) A s.heap st H locs)  (hl : lv_has ls 3 []) : W p l e rm_X8_keepRow s m args below meth c H locs 0 0 (MQ below (QV g nwM (ceM g) A st9) args s 0 0 A) (F0 m 31 ls []) := by
  have hx := X.1
  have hb := X.2.1
  unfold X8_keepRow_31 at h
  exact k_vretW X Y h dX8_keepRow_31
set_option maxHeartbeats 4000000 in
set_option maxRecDepth 100000 in
theorem w_X8_keepRow_2b (X : Cx g p s m args meth c cX8_keepRow 3 RX8 none) {x1 : Int32} {x2 : Int32} {st : Sg} {st9 : Sg} (rc2 : Int32 → Sg → Option Sg) (hrc2 : ∀ (x2 : Int32) (st : Sg) (ls : Array Slot) (H : Heap) (locs : List Loc), rc2 x2 st = some st9 → Hp g nwM (ceM g) A s.heap st H locs → lv_has ls 3 [(0, .ref (g.2.1 0)), (1, .int x1), (2, .int x2)] → W p l e rm_X8_keepRow s m args below meth c H locs 0 0 (MQ below (QV g nwM (ceM g) A st9) args s 0 0 A) (F0 m 2 ls [])) (h : X8_keepRow_2b rc2 x1 x2 st = some st9) (Y : Hp g nwM (ceM g) A s.heap st H locs)  (hl : lv_has ls 3 [(0, .ref (g.2.1 0)), (1, .int x1), (2, .int x2)]) : W p l e rm_X8_keepRow s m args below meth c H locs 0 0 (MQ below (QV g nwM (ceM g) A st9) args s 0 0 A) (F0 m 2 ls []) := by
  have hx := X.1
  have hb := X.2.1
  unfold X8_keepRow_2b at h
  refine lv_iload_n hx hb dX8_keepRow_2 rfl (lv_at hl 2 rfl) ?_
  refine lv_bipush (v := 12) hx hb dX8_keepRow_3 (by decide) ?_
  refine lv_icmp_gt (tgt := 31) hx hb dX8_keepRow_5 (by decide) (fun c1 => ?_) (fun c1 => ?_)
  · have h := ite_t h c1
    exact w_X8_keepRow_31 X  h Y  (lv_sub hl [] rfl)
  · have h := ite_f h c1
    refine lv_aload_n hx hb dX8_keepRow_8 rfl (lv_at hl 0 rfl) ?_
    refine k_get (v := .ref (g.2.1 8)) X Y fl_8_32 0 (Nat.le_of_ble_eq_true rfl) rfl rfl dX8_keepRow_9 ?_
    refine lv_bipush (v := 13) hx hb dX8_keepRow_12 (by decide) ?_
    refine lv_iload_n hx hb dX8_keepRow_14 rfl (lv_at hl 1 rfl) ?_
    refine lv_imul hx hb dX8_keepRow_15 ?_
    refine lv_iload_n hx hb dX8_keepRow_16 rfl (lv_at hl 2 rfl) ?_
    refine lv_iadd hx hb dX8_keepRow_17 ?_
    refine lv_aload_n hx hb dX8_keepRow_18 rfl (lv_at hl 0 rfl) ?_
    refine k_get (v := .ref (g.2.1 7)) X Y fl_8_28 0 (Nat.le_of_ble_eq_true rfl) rfl rfl dX8_keepRow_19 ?_
    refine lv_iload_n hx hb dX8_keepRow_22 rfl (lv_at hl 2 rfl) ?_
    obtain ⟨i2, h⟩ := cix_s h
    refine k_lald X Y 7 (Nat.le_of_ble_eq_true rfl) (fun _ _ => rfl) i2 dX8_keepRow_23 ?_
    obtain ⟨i3, h⟩ := cix_s h
    refine k_last X Y 8 (Nat.le_of_ble_eq_true rfl) (fun _ _ => rfl) i3 dX8_keepRow_24 (fun H locs Y => ?_)
    obtain ⟨st4, est4, h⟩ := nm_s h
    have Y : Hp g nwM (ceM g) A s.heap st4 H locs := by rw [est4]; exact Y
    obtain ⟨v5, ev5, h⟩ := nm_s h
    refine lv_iinc (v := v5) (lv' := [(2, .int v5), (0, .ref (g.2.1 0)), (1, .int x1)]) hx hb dX8_keepRow_25 hl (k := 2) rfl (by rw [ev5]; rfl) (by decide) rfl (fun ls hl => ?_)
    refine lv_goto (tgt := 2) hx hb dX8_keepRow_28 (by decide) ?_
    exact hrc2 v5 st4 _ _ _ h Y (lv_sub hl [1, 2, 0] rfl)
theorem w_X8_keepRow_2 (X : Cx g p s m args meth c cX8_keepRow 3 RX8 none) {x1 : Int32}  {st9 : Sg}   : ∀ (k : Nat) (x2 : Int32) (st : Sg) (ls : Array Slot) (H : Heap) (locs : List Loc), X8_keepRow_2 x1 k x2 st = some st9 → Hp g nwM (ceM g) A s.heap st H locs → lv_has ls 3 [(0, .ref (g.2.1 0)), (1, .int x1), (2, .int x2)] → W p l e rm_X8_keepRow s m args below meth c H locs 0 0 (MQ below (QV g nwM (ceM g) A st9) args s 0 0 A) (F0 m 2 ls []) := by
  intro k
  induction k with
  | zero =>
    intro x2 st ls H locs h
    exact none_s h
  | succ k ih =>
    intro x2 st ls H locs h Y hl
    exact w_X8_keepRow_2b X  (X8_keepRow_2 x1 k) ih h Y  hl
set_option maxHeartbeats 4000000 in
set_option maxRecDepth 100000 in
theorem w_X8_keepRow (X : Cx g p s m args meth c cX8_keepRow 3 RX8 none) {x1 : Int32} {st : Sg} {st9 : Sg}  (h : X8_keepRow x1 st = some st9) (Y : Hp g nwM (ceM g) A s.heap st H locs)  (hl : lv_has ls 3 [(0, .ref (g.2.1 0)), (1, .int x1)]) : W p l e rm_X8_keepRow s m args below meth c H locs 0 0 (MQ below (QV g nwM (ceM g) A st9) args s 0 0 A) (F0 m 0 ls []) := by
  have hx := X.1
  have hb := X.2.1
  unfold X8_keepRow at h
  refine lv_iconst (v := 0) hx hb dX8_keepRow_0 (by decide) ?_
  refine lv_istore_n (lv' := [(2, .int 0), (0, .ref (g.2.1 0)), (1, .int x1)]) hx hb dX8_keepRow_1 rfl hl (by decide) rfl (fun ls hl => ?_)
  exact w_X8_keepRow_2 X   FU 0 st _ _ _ h Y (lv_sub hl [1, 2, 0] rfl)
theorem c_X8_keepRow (l : Launch) {g : Gx} {x1 : Int32} {st : Sg} {st9 : Sg} (h : X8_keepRow x1 st = some st9) : MetV l yX8_keepRow cX8_keepRow 3 none rm_X8_keepRow g nwM (ceM g) [.ref (g.2.1 0), .int x1] st st9 :=
  met_of (Qc := fun A => QV g nwM (ceM g) A st9) (by decide) (Nat.le_of_ble_eq_true rfl) (fun p e s m below meth c A ls X Y hl => w_X8_keepRow X h Y hl)
def X8_worthOf_25   (k0 : Int32) (st : Sg) : Option Int32 :=
  some k0
def X8_worthOf   (x1 : Int32) (x2 : Int32) (st : Sg) : Option Int32 :=
  cix x1 3 <|
  cix x1 3 <|
  nm ((st.1 3 x1.toNatClampNeg) - ((st.1 4 x1.toNatClampNeg) * x2)) fun v3 =>
  if (0 : Int32) ≤ v3 then
    X8_worthOf_25 v3 st
  else
    X8_worthOf_25 0 st
abbrev rm_X8_worthOf : Room := { frames := 0, cells := 0, slots := 0, locals := 0 }
set_option maxHeartbeats 4000000 in
set_option maxRecDepth 100000 in
theorem w_X8_worthOf_25 (X : Cx g p s m args meth c cX8_worthOf 4 RX8 (some .int)) {k0 : Int32} {st : Sg} {r9 : Int32}  (h : X8_worthOf_25 k0 st = some r9) (Y : Hp g nwM (ceM g) A s.heap st H locs)  (hl : lv_has ls 4 []) : W p l e rm_X8_worthOf s m args below meth c H locs 0 0 (MQ below (QI g nwM (ceM g) A r9 st) args s 0 0 A) (F0 m 25 ls [.int k0]) := by
  have hx := X.1
  have hb := X.2.1
  unfold X8_worthOf_25 at h
  exact k_iretR X Y h dX8_worthOf_25
set_option maxHeartbeats 4000000 in
set_option maxRecDepth 100000 in
theorem w_X8_worthOf (X : Cx g p s m args meth c cX8_worthOf 4 RX8 (some .int)) {x1 : Int32} {x2 : Int32} {st : Sg} {r9 : Int32}  (h : X8_worthOf x1 x2 st = some r9) (Y : Hp g nwM (ceM g) A s.heap st H locs)  (hl : lv_has ls 4 [(0, .ref (g.2.1 0)), (1, .int x1), (2, .int x2)]) : W p l e rm_X8_worthOf s m args below meth c H locs 0 0 (MQ below (QI g nwM (ceM g) A r9 st) args s 0 0 A) (F0 m 0 ls []) := by
  have hx := X.1
  have hb := X.2.1
  unfold X8_worthOf at h
  refine lv_aload_n hx hb dX8_worthOf_0 rfl (lv_at hl 0 rfl) ?_
  refine k_get (v := .ref (g.2.1 3)) X Y fl_8_16 0 (Nat.le_of_ble_eq_true rfl) rfl rfl dX8_worthOf_1 ?_
  refine lv_iload_n hx hb dX8_worthOf_4 rfl (lv_at hl 1 rfl) ?_
  obtain ⟨i1, h⟩ := cix_s h
  refine k_iald X Y 3 (Nat.le_of_ble_eq_true rfl) (fun _ _ => rfl) i1 dX8_worthOf_5 ?_
  refine lv_aload_n hx hb dX8_worthOf_6 rfl (lv_at hl 0 rfl) ?_
  refine k_get (v := .ref (g.2.1 4)) X Y fl_8_19 0 (Nat.le_of_ble_eq_true rfl) rfl rfl dX8_worthOf_7 ?_
  refine lv_iload_n hx hb dX8_worthOf_10 rfl (lv_at hl 1 rfl) ?_
  obtain ⟨i2, h⟩ := cix_s h
  refine k_iald X Y 4 (Nat.le_of_ble_eq_true rfl) (fun _ _ => rfl) i2 dX8_worthOf_11 ?_
  refine lv_iload_n hx hb dX8_worthOf_12 rfl (lv_at hl 2 rfl) ?_
  refine lv_imul hx hb dX8_worthOf_13 ?_
  refine lv_isub hx hb dX8_worthOf_14 ?_
  obtain ⟨v3, ev3, h⟩ := nm_s h
  refine k_nmI ev3 ?_
  refine lv_istore_n (lv' := [(3, .int v3), (0, .ref (g.2.1 0)), (1, .int x1), (2, .int x2)]) hx hb dX8_worthOf_15 rfl hl (by decide) rfl (fun ls hl => ?_)
  refine lv_iload_n hx hb dX8_worthOf_16 rfl (lv_at hl 0 rfl) ?_
  refine lv_if_ge (tgt := 24) hx hb dX8_worthOf_17 (by decide) (fun c4 => ?_) (fun c4 => ?_)
  · have h := ite_t h c4
    refine lv_iload_n hx hb dX8_worthOf_24 rfl (lv_at hl 0 rfl) ?_
    exact w_X8_worthOf_25 X  h Y  (lv_sub hl [] rfl)
  · have h := ite_f h c4
    refine lv_iconst (v := 0) hx hb dX8_worthOf_20 (by decide) ?_
    refine lv_goto (tgt := 25) hx hb dX8_worthOf_21 (by decide) ?_
    exact w_X8_worthOf_25 X  h Y  (lv_sub hl [] rfl)
theorem c_X8_worthOf (l : Launch) {g : Gx} {x1 : Int32} {x2 : Int32} {st : Sg} {r9 : Int32} (h : X8_worthOf x1 x2 st = some r9) : MetI l yX8_worthOf cX8_worthOf 4 (some .int) rm_X8_worthOf g nwM (ceM g) [.ref (g.2.1 0), .int x1, .int x2] st r9 st :=
  met_of (Qc := fun A => QI g nwM (ceM g) A r9 st) (by decide) (Nat.le_of_ble_eq_true rfl) (fun p e s m below meth c A ls X Y hl => w_X8_worthOf X h Y hl)
def X8_buyer_76  (rc3 : Int32 → Sg → Option Sg) (k1 : Int32) (k2 : Int64) (x1 : Int32) (x2 : Int32) (x3 : Int32) (st : Sg) : Option Sg :=
  cix k1 13 <|
  nm (sJ st 7 k1.toNatClampNeg k2) fun st2 =>
  nm (x3 + (-1)) fun v3 =>
  rc3 v3 st2
def X8_buyer_20  (rc3 : Int32 → Sg → Option Sg) (k0 : Int32) (x1 : Int32) (x2 : Int32) (x3 : Int32) (st : Sg) : Option Sg :=
  if k0 = (0 : Int32) then
    cix x3 13 <|
    X8_buyer_76 rc3 x3 (4 * (st.2 7 x3.toNatClampNeg)) x1 x2 x3 st
  else
    cix (x3 - 1) 13 <|
    cix x3 13 <|
    X8_buyer_76 rc3 x3 (((x1.toInt64) * (((x2.toInt64) * (st.2 0 12)) + (st.2 7 (x3 - 1).toNatClampNeg))) + (((4 - x1).toInt64) * (st.2 7 x3.toNatClampNeg))) x1 x2 x3 st
def X8_buyer_19  (rc3 : Int32 → Sg → Option Sg) (x1 : Int32) (x2 : Int32) (x3 : Int32) (st : Sg) : Option Sg :=
  X8_buyer_20 rc3 0 x1 x2 x3 st
def X8_buyer_83    (st : Sg) : Option Sg :=
  nm (sJ st 0 12 ((st.2 0 12) * 4)) fun st1 =>
  some st1
def X8_buyer_3b  (rc3 : Int32 → Sg → Option Sg) (x1 : Int32) (x2 : Int32) (x3 : Int32) (st : Sg) : Option Sg :=
  if x3 < (0 : Int32) then
    X8_buyer_83 st
  else
    if x3 ≤ (0 : Int32) then
      X8_buyer_19 rc3 x1 x2 x3 st
    else
      if x1 ≤ (0 : Int32) then
        X8_buyer_19 rc3 x1 x2 x3 st
      else
        X8_buyer_20 rc3 1 x1 x2 x3 st
def X8_buyer_3   (x1 : Int32) (x2 : Int32) : Nat → Int32 → Sg → Option Sg
  | 0, _, _ => none
  | k + 1, x3, st => X8_buyer_3b   (X8_buyer_3 x1 x2 k) x1 x2 x3 st
def X8_buyer   (x1 : Int32) (x2 : Int32) (st : Sg) : Option Sg :=
  X8_buyer_3 x1 x2 FU 12 st
abbrev rm_X8_buyer : Room := { frames := 0, cells := 0, slots := 0, locals := 0 }
set_option maxHeartbeats 4000000 in
set_option maxRecDepth 100000 in
theorem w_X8_buyer_76 (X : Cx g p s m args meth c cX8_buyer 5 RX8 none) {k1 : Int32} {k2 : Int64} {x1 : Int32} {x2 : Int32} {x3 : Int32} {st : Sg} {st9 : Sg} (rc3 : Int32 → Sg → Option Sg) (hrc3 : ∀ (x3 : Int32) (st : Sg) (ls : Array Slot) (H : Heap) (locs : List Loc), rc3 x3 st = some st9 → Hp g nwM (ceM g) A s.heap st H locs → lv_has ls 5 [(0, .ref (g.2.1 0)), (1, .int x1), (2, .int x2), (3, .int x3)] → W p l e rm_X8_buyer s m args below meth c H locs 0 0 (MQ below (QV g nwM (ceM g) A st9) args s 0 0 A) (F0 m 3 ls [])) (h : X8_buyer_76 rc3 k1 k2 x1 x2 x3 st = some st9) (Y : Hp g nwM (ceM g) A s.heap st H locs)  (hl : lv_has ls 5 [(0, .ref (g.2.1 0)), (1, .int x1), (2, .int x2), (3, .int x3)]) : W p l e rm_X8_buyer s m args below meth c H locs 0 0 (MQ below (QV g nwM (ceM g) A st9) args s 0 0 A) (F0 m 76 ls [.long k2, .int k1, .ref (g.2.1 7)]) := by
  have hx := X.1
  have hb := X.2.1
  unfold X8_buyer_76 at h
  obtain ⟨i1, h⟩ := cix_s h
  refine k_last X Y 7 (Nat.le_of_ble_eq_true rfl) (fun _ _ => rfl) i1 dX8_buyer_76 (fun H locs Y => ?_)
  obtain ⟨st2, est2, h⟩ := nm_s h
  have Y : Hp g nwM (ceM g) A s.heap st2 H locs := by rw [est2]; exact Y
  obtain ⟨v3, ev3, h⟩ := nm_s h
  refine lv_iinc (v := v3) (lv' := [(3, .int v3), (0, .ref (g.2.1 0)), (1, .int x1), (2, .int x2)]) hx hb dX8_buyer_77 hl (k := 3) rfl (by rw [ev3]; rfl) (by decide) rfl (fun ls hl => ?_)
  refine lv_goto (tgt := 3) hx hb dX8_buyer_80 (by decide) ?_
  exact hrc3 v3 st2 _ _ _ h Y (lv_sub hl [1, 2, 3, 0] rfl)
set_option maxHeartbeats 4000000 in
set_option maxRecDepth 100000 in
theorem w_X8_buyer_20 (X : Cx g p s m args meth c cX8_buyer 5 RX8 none) {k0 : Int32} {x1 : Int32} {x2 : Int32} {x3 : Int32} {st : Sg} {st9 : Sg} (rc3 : Int32 → Sg → Option Sg) (hrc3 : ∀ (x3 : Int32) (st : Sg) (ls : Array Slot) (H : Heap) (locs : List Loc), rc3 x3 st = some st9 → Hp g nwM (ceM g) A s.heap st H locs → lv_has ls 5 [(0, .ref (g.2.1 0)), (1, .int x1), (2, .int x2), (3, .int x3)] → W p l e rm_X8_buyer s m args below meth c H locs 0 0 (MQ below (QV g nwM (ceM g) A st9) args s 0 0 A) (F0 m 3 ls [])) (h : X8_buyer_20 rc3 k0 x1 x2 x3 st = some st9) (Y : Hp g nwM (ceM g) A s.heap st H locs)  (hl : lv_has ls 5 [(0, .ref (g.2.1 0)), (1, .int x1), (2, .int x2), (3, .int x3)]) : W p l e rm_X8_buyer s m args below meth c H locs 0 0 (MQ below (QV g nwM (ceM g) A st9) args s 0 0 A) (F0 m 20 ls [.int k0]) := by
  have hx := X.1
  have hb := X.2.1
  unfold X8_buyer_20 at h
  refine lv_istore (lv' := [(4, .int k0), (0, .ref (g.2.1 0)), (1, .int x1), (2, .int x2), (3, .int x3)]) hx hb dX8_buyer_20 hl (by decide) rfl (fun ls hl => ?_)
  refine lv_aload_n hx hb dX8_buyer_22 rfl (lv_at hl 1 rfl) ?_
  refine k_get (v := .ref (g.2.1 7)) X Y fl_8_28 0 (Nat.le_of_ble_eq_true rfl) rfl rfl dX8_buyer_23 ?_
  refine lv_iload_n hx hb dX8_buyer_26 rfl (lv_at hl 4 rfl) ?_
  refine lv_iload hx hb dX8_buyer_27 (lv_at hl 0 rfl) ?_
  refine lv_if_eq (tgt := 66) hx hb dX8_buyer_29 (by decide) (fun c1 => ?_) (fun c1 => ?_)
  · have h := ite_t h c1
    refine k_ldc2 X lg_8_99 dX8_buyer_66 ?_
    refine lv_aload_n hx hb dX8_buyer_69 rfl (lv_at hl 1 rfl) ?_
    refine k_get (v := .ref (g.2.1 7)) X Y fl_8_28 0 (Nat.le_of_ble_eq_true rfl) rfl rfl dX8_buyer_70 ?_
    refine lv_iload_n hx hb dX8_buyer_73 rfl (lv_at hl 4 rfl) ?_
    obtain ⟨i2, h⟩ := cix_s h
    refine k_lald X Y 7 (Nat.le_of_ble_eq_true rfl) (fun _ _ => rfl) i2 dX8_buyer_74 ?_
    refine lv_lmul hx hb dX8_buyer_75 ?_
    exact w_X8_buyer_76 X rc3 hrc3 h Y  (lv_sub hl [1, 2, 3, 4] rfl)
  · have h := ite_f h c1
    refine lv_iload_n hx hb dX8_buyer_32 rfl (lv_at hl 2 rfl) ?_
    refine lv_i2l hx hb dX8_buyer_33 rfl ?_
    refine lv_iload_n hx hb dX8_buyer_34 rfl (lv_at hl 3 rfl) ?_
    refine lv_i2l hx hb dX8_buyer_35 rfl ?_
    refine lv_aload_n hx hb dX8_buyer_36 rfl (lv_at hl 1 rfl) ?_
    refine k_get (v := .long (st.2 0 12)) X Y fl_8_120 0 (Nat.le_of_ble_eq_true rfl) rfl rfl dX8_buyer_37 ?_
    refine lv_lmul hx hb dX8_buyer_40 ?_
    refine lv_aload_n hx hb dX8_buyer_41 rfl (lv_at hl 1 rfl) ?_
    refine k_get (v := .ref (g.2.1 7)) X Y fl_8_28 0 (Nat.le_of_ble_eq_true rfl) rfl rfl dX8_buyer_42 ?_
    refine lv_iload_n hx hb dX8_buyer_45 rfl (lv_at hl 4 rfl) ?_
    refine lv_iconst (v := 1) hx hb dX8_buyer_46 (by decide) ?_
    refine lv_isub hx hb dX8_buyer_47 ?_
    obtain ⟨i3, h⟩ := cix_s h
    refine k_lald X Y 7 (Nat.le_of_ble_eq_true rfl) (fun _ _ => rfl) i3 dX8_buyer_48 ?_
    refine lv_ladd hx hb dX8_buyer_49 ?_
    refine lv_lmul hx hb dX8_buyer_50 ?_
    refine lv_iconst (v := 4) hx hb dX8_buyer_51 (by decide) ?_
    refine lv_iload_n hx hb dX8_buyer_52 rfl (lv_at hl 2 rfl) ?_
    refine lv_isub hx hb dX8_buyer_53 ?_
    refine lv_i2l hx hb dX8_buyer_54 rfl ?_
    refine lv_aload_n hx hb dX8_buyer_55 rfl (lv_at hl 1 rfl) ?_
    refine k_get (v := .ref (g.2.1 7)) X Y fl_8_28 0 (Nat.le_of_ble_eq_true rfl) rfl rfl dX8_buyer_56 ?_
    refine lv_iload_n hx hb dX8_buyer_59 rfl (lv_at hl 4 rfl) ?_
    obtain ⟨i4, h⟩ := cix_s h
    refine k_lald X Y 7 (Nat.le_of_ble_eq_true rfl) (fun _ _ => rfl) i4 dX8_buyer_60 ?_
    refine lv_lmul hx hb dX8_buyer_61 ?_
    refine lv_ladd hx hb dX8_buyer_62 ?_
    refine lv_goto (tgt := 76) hx hb dX8_buyer_63 (by decide) ?_
    exact w_X8_buyer_76 X rc3 hrc3 h Y  (lv_sub hl [1, 2, 3, 4] rfl)
set_option maxHeartbeats 4000000 in
set_option maxRecDepth 100000 in
theorem w_X8_buyer_19 (X : Cx g p s m args meth c cX8_buyer 5 RX8 none) {x1 : Int32} {x2 : Int32} {x3 : Int32} {st : Sg} {st9 : Sg} (rc3 : Int32 → Sg → Option Sg) (hrc3 : ∀ (x3 : Int32) (st : Sg) (ls : Array Slot) (H : Heap) (locs : List Loc), rc3 x3 st = some st9 → Hp g nwM (ceM g) A s.heap st H locs → lv_has ls 5 [(0, .ref (g.2.1 0)), (1, .int x1), (2, .int x2), (3, .int x3)] → W p l e rm_X8_buyer s m args below meth c H locs 0 0 (MQ below (QV g nwM (ceM g) A st9) args s 0 0 A) (F0 m 3 ls [])) (h : X8_buyer_19 rc3 x1 x2 x3 st = some st9) (Y : Hp g nwM (ceM g) A s.heap st H locs)  (hl : lv_has ls 5 [(0, .ref (g.2.1 0)), (1, .int x1), (2, .int x2), (3, .int x3)]) : W p l e rm_X8_buyer s m args below meth c H locs 0 0 (MQ below (QV g nwM (ceM g) A st9) args s 0 0 A) (F0 m 19 ls []) := by
  have hx := X.1
  have hb := X.2.1
  unfold X8_buyer_19 at h
  refine lv_iconst (v := 0) hx hb dX8_buyer_19 (by decide) ?_
  exact w_X8_buyer_20 X rc3 hrc3 h Y  (lv_sub hl [0, 1, 2, 3] rfl)
set_option maxHeartbeats 4000000 in
set_option maxRecDepth 100000 in
theorem w_X8_buyer_83 (X : Cx g p s m args meth c cX8_buyer 5 RX8 none)  {st : Sg} {st9 : Sg}  (h : X8_buyer_83 st = some st9) (Y : Hp g nwM (ceM g) A s.heap st H locs)  (hl : lv_has ls 5 [(0, .ref (g.2.1 0))]) : W p l e rm_X8_buyer s m args below meth c H locs 0 0 (MQ below (QV g nwM (ceM g) A st9) args s 0 0 A) (F0 m 83 ls []) := by
  have hx := X.1
  have hb := X.2.1
  unfold X8_buyer_83 at h
  refine lv_aload_n hx hb dX8_buyer_83 rfl (lv_at hl 0 rfl) ?_
  refine lv_dup hx hb dX8_buyer_84 rfl ?_
  refine k_get (v := .long (st.2 0 12)) X Y fl_8_120 0 (Nat.le_of_ble_eq_true rfl) rfl rfl dX8_buyer_85 ?_
  refine k_ldc2 X lg_8_99 dX8_buyer_88 ?_
  refine lv_lmul hx hb dX8_buyer_91 ?_
  refine k_putJ X Y fl_8_120 0 (Nat.le_of_ble_eq_true rfl) rfl (Nat.le_of_ble_eq_true rfl) rfl dX8_buyer_92 (fun H locs Y => ?_)
  obtain ⟨st1, est1, h⟩ := nm_s h
  have Y : Hp g nwM (ceM g) A s.heap st1 H locs := by rw [est1]; exact Y
  exact k_vretW X Y h dX8_buyer_95
set_option maxHeartbeats 4000000 in
set_option maxRecDepth 100000 in
theorem w_X8_buyer_3b (X : Cx g p s m args meth c cX8_buyer 5 RX8 none) {x1 : Int32} {x2 : Int32} {x3 : Int32} {st : Sg} {st9 : Sg} (rc3 : Int32 → Sg → Option Sg) (hrc3 : ∀ (x3 : Int32) (st : Sg) (ls : Array Slot) (H : Heap) (locs : List Loc), rc3 x3 st = some st9 → Hp g nwM (ceM g) A s.heap st H locs → lv_has ls 5 [(0, .ref (g.2.1 0)), (1, .int x1), (2, .int x2), (3, .int x3)] → W p l e rm_X8_buyer s m args below meth c H locs 0 0 (MQ below (QV g nwM (ceM g) A st9) args s 0 0 A) (F0 m 3 ls [])) (h : X8_buyer_3b rc3 x1 x2 x3 st = some st9) (Y : Hp g nwM (ceM g) A s.heap st H locs)  (hl : lv_has ls 5 [(0, .ref (g.2.1 0)), (1, .int x1), (2, .int x2), (3, .int x3)]) : W p l e rm_X8_buyer s m args below meth c H locs 0 0 (MQ below (QV g nwM (ceM g) A st9) args s 0 0 A) (F0 m 3 ls []) := by
  have hx := X.1
  have hb := X.2.1
  unfold X8_buyer_3b at h
  refine lv_iload_n hx hb dX8_buyer_3 rfl (lv_at hl 3 rfl) ?_
  refine lv_if_lt (tgt := 83) hx hb dX8_buyer_4 (by decide) (fun c1 => ?_) (fun c1 => ?_)
  · have h := ite_t h c1
    exact w_X8_buyer_83 X  h Y  (lv_sub hl [0] rfl)
  · have h := ite_f h c1
    refine lv_iload_n hx hb dX8_buyer_7 rfl (lv_at hl 3 rfl) ?_
    refine lv_if_le (tgt := 19) hx hb dX8_buyer_8 (by decide) (fun c2 => ?_) (fun c2 => ?_)
    · have h := ite_t h c2
      exact w_X8_buyer_19 X rc3 hrc3 h Y  (lv_sub hl [0, 1, 2, 3] rfl)
    · have h := ite_f h c2
      refine lv_iload_n hx hb dX8_buyer_11 rfl (lv_at hl 1 rfl) ?_
      refine lv_if_le (tgt := 19) hx hb dX8_buyer_12 (by decide) (fun c3 => ?_) (fun c3 => ?_)
      · have h := ite_t h c3
        exact w_X8_buyer_19 X rc3 hrc3 h Y  (lv_sub hl [0, 1, 2, 3] rfl)
      · have h := ite_f h c3
        refine lv_iconst (v := 1) hx hb dX8_buyer_15 (by decide) ?_
        refine lv_goto (tgt := 20) hx hb dX8_buyer_16 (by decide) ?_
        exact w_X8_buyer_20 X rc3 hrc3 h Y  (lv_sub hl [0, 1, 2, 3] rfl)
theorem w_X8_buyer_3 (X : Cx g p s m args meth c cX8_buyer 5 RX8 none) {x1 : Int32} {x2 : Int32}  {st9 : Sg}   : ∀ (k : Nat) (x3 : Int32) (st : Sg) (ls : Array Slot) (H : Heap) (locs : List Loc), X8_buyer_3 x1 x2 k x3 st = some st9 → Hp g nwM (ceM g) A s.heap st H locs → lv_has ls 5 [(0, .ref (g.2.1 0)), (1, .int x1), (2, .int x2), (3, .int x3)] → W p l e rm_X8_buyer s m args below meth c H locs 0 0 (MQ below (QV g nwM (ceM g) A st9) args s 0 0 A) (F0 m 3 ls []) := by
  intro k
  induction k with
  | zero =>
    intro x3 st ls H locs h
    exact none_s h
  | succ k ih =>
    intro x3 st ls H locs h Y hl
    exact w_X8_buyer_3b X  (X8_buyer_3 x1 x2 k) ih h Y  hl
set_option maxHeartbeats 4000000 in
set_option maxRecDepth 100000 in
theorem w_X8_buyer (X : Cx g p s m args meth c cX8_buyer 5 RX8 none) {x1 : Int32} {x2 : Int32} {st : Sg} {st9 : Sg}  (h : X8_buyer x1 x2 st = some st9) (Y : Hp g nwM (ceM g) A s.heap st H locs)  (hl : lv_has ls 5 [(0, .ref (g.2.1 0)), (1, .int x1), (2, .int x2)]) : W p l e rm_X8_buyer s m args below meth c H locs 0 0 (MQ below (QV g nwM (ceM g) A st9) args s 0 0 A) (F0 m 0 ls []) := by
  have hx := X.1
  have hb := X.2.1
  unfold X8_buyer at h
  refine lv_bipush (v := 12) hx hb dX8_buyer_0 (by decide) ?_
  refine lv_istore_n (lv' := [(3, .int 12), (0, .ref (g.2.1 0)), (1, .int x1), (2, .int x2)]) hx hb dX8_buyer_2 rfl hl (by decide) rfl (fun ls hl => ?_)
  exact w_X8_buyer_3 X   FU 12 st _ _ _ h Y (lv_sub hl [1, 2, 3, 0] rfl)
theorem c_X8_buyer (l : Launch) {g : Gx} {x1 : Int32} {x2 : Int32} {st : Sg} {st9 : Sg} (h : X8_buyer x1 x2 st = some st9) : MetV l yX8_buyer cX8_buyer 5 none rm_X8_buyer g nwM (ceM g) [.ref (g.2.1 0), .int x1, .int x2] st st9 :=
  met_of (Qc := fun A => QV g nwM (ceM g) A st9) (by decide) (Nat.le_of_ble_eq_true rfl) (fun p e s m below meth c A ls X Y hl => w_X8_buyer X h Y hl)
def X8_dayAt_32  (rc7 : Int32 → Sg → Option Sg) (k1 : Int32) (x1 : Int32) (x2 : Int32) (x3 : Int32) (st : Sg) : Option Sg :=
  bnd1 (X8_buyer k1 x2 st) fun st2 =>
  nm (x3 + (-1)) fun v3 =>
  rc7 v3 st2
def X8_dayAt_42    (st : Sg) : Option Sg :=
  some st
def X8_dayAt_7b  (rc7 : Int32 → Sg → Option Sg) (x1 : Int32) (x2 : Int32) (x3 : Int32) (st : Sg) : Option Sg :=
  if x3 < (0 : Int32) then
    X8_dayAt_42 st
  else
    bnd1 (X8_worthOf x3 x1 st) fun v3 =>
    if v3 < x2 then
      X8_dayAt_32 rc7 0 x1 x2 x3 st
    else
      cix x3 3 <|
      X8_dayAt_32 rc7 (st.1 2 x3.toNatClampNeg) x1 x2 x3 st
def X8_dayAt_7   (x1 : Int32) (x2 : Int32) : Nat → Int32 → Sg → Option Sg
  | 0, _, _ => none
  | k + 1, x3, st => X8_dayAt_7b   (X8_dayAt_7 x1 x2 k) x1 x2 x3 st
def X8_dayAt   (x1 : Int32) (x2 : Int32) (st : Sg) : Option Sg :=
  nm ((st.1 0 9) - 1) fun v1 =>
  X8_dayAt_7 x1 x2 FU v1 st
abbrev rm_X8_dayAt : Room := { frames := 1, cells := 0, slots := 0, locals := 24 }
set_option maxHeartbeats 4000000 in
set_option maxRecDepth 100000 in
theorem w_X8_dayAt_32 (X : Cx g p s m args meth c cX8_dayAt 4 RX8 none) {k1 : Int32} {x1 : Int32} {x2 : Int32} {x3 : Int32} {st : Sg} {st9 : Sg} (rc7 : Int32 → Sg → Option Sg) (hrc7 : ∀ (x3 : Int32) (st : Sg) (ls : Array Slot) (H : Heap) (locs : List Loc), rc7 x3 st = some st9 → Hp g nwM (ceM g) A s.heap st H locs → lv_has ls 4 [(0, .ref (g.2.1 0)), (1, .int x1), (2, .int x2), (3, .int x3)] → W p l e rm_X8_dayAt s m args below meth c H locs 0 0 (MQ below (QV g nwM (ceM g) A st9) args s 0 0 A) (F0 m 7 ls [])) (h : X8_dayAt_32 rc7 k1 x1 x2 x3 st = some st9) (Y : Hp g nwM (ceM g) A s.heap st H locs)  (hl : lv_has ls 4 [(0, .ref (g.2.1 0)), (1, .int x1), (2, .int x2), (3, .int x3)]) : W p l e rm_X8_dayAt s m args below meth c H locs 0 0 (MQ below (QV g nwM (ceM g) A st9) args s 0 0 A) (F0 m 32 ls [.int k1, .ref (g.2.1 0)]) := by
  have hx := X.1
  have hb := X.2.1
  unfold X8_dayAt_32 at h
  refine lv_iload_n hx hb dX8_dayAt_32 rfl (lv_at hl 2 rfl) ?_
  obtain ⟨st2, hc1, h⟩ := bnd1_s h
  refine k_cV Y (k_runV (As := [.int k1, .int x2]) (rest := []) (o := 0) X Y cl_8_124 (c_X8_buyer l hc1 _) ⟨rfl, rfl, Nat.le_of_ble_eq_true rfl, Nat.le_of_ble_eq_true rfl⟩ (Nat.le_of_ble_eq_true rfl) rfl rfl hl.1 rfl (Nat.le_of_ble_eq_true rfl) dX8_dayAt_33 ⟨Nat.zero_le _, Nat.zero_le _⟩) (fun H locs Y => ?_)
  obtain ⟨v3, ev3, h⟩ := nm_s h
  refine lv_iinc (v := v3) (lv' := [(3, .int v3), (0, .ref (g.2.1 0)), (1, .int x1), (2, .int x2)]) hx hb dX8_dayAt_36 hl (k := 3) rfl (by rw [ev3]; rfl) (by decide) rfl (fun ls hl => ?_)
  refine lv_goto (tgt := 7) hx hb dX8_dayAt_39 (by decide) ?_
  exact hrc7 v3 st2 _ _ _ h Y (lv_sub hl [1, 2, 3, 0] rfl)
set_option maxHeartbeats 4000000 in
set_option maxRecDepth 100000 in
theorem w_X8_dayAt_42 (X : Cx g p s m args meth c cX8_dayAt 4 RX8 none)  {st : Sg} {st9 : Sg}  (h : X8_dayAt_42 st = some st9) (Y : Hp g nwM (ceM g) A s.heap st H locs)  (hl : lv_has ls 4 []) : W p l e rm_X8_dayAt s m args below meth c H locs 0 0 (MQ below (QV g nwM (ceM g) A st9) args s 0 0 A) (F0 m 42 ls []) := by
  have hx := X.1
  have hb := X.2.1
  unfold X8_dayAt_42 at h
  exact k_vretW X Y h dX8_dayAt_42
set_option maxHeartbeats 4000000 in
set_option maxRecDepth 100000 in
theorem w_X8_dayAt_7b (X : Cx g p s m args meth c cX8_dayAt 4 RX8 none) {x1 : Int32} {x2 : Int32} {x3 : Int32} {st : Sg} {st9 : Sg} (rc7 : Int32 → Sg → Option Sg) (hrc7 : ∀ (x3 : Int32) (st : Sg) (ls : Array Slot) (H : Heap) (locs : List Loc), rc7 x3 st = some st9 → Hp g nwM (ceM g) A s.heap st H locs → lv_has ls 4 [(0, .ref (g.2.1 0)), (1, .int x1), (2, .int x2), (3, .int x3)] → W p l e rm_X8_dayAt s m args below meth c H locs 0 0 (MQ below (QV g nwM (ceM g) A st9) args s 0 0 A) (F0 m 7 ls [])) (h : X8_dayAt_7b rc7 x1 x2 x3 st = some st9) (Y : Hp g nwM (ceM g) A s.heap st H locs)  (hl : lv_has ls 4 [(0, .ref (g.2.1 0)), (1, .int x1), (2, .int x2), (3, .int x3)]) : W p l e rm_X8_dayAt s m args below meth c H locs 0 0 (MQ below (QV g nwM (ceM g) A st9) args s 0 0 A) (F0 m 7 ls []) := by
  have hx := X.1
  have hb := X.2.1
  unfold X8_dayAt_7b at h
  refine lv_iload_n hx hb dX8_dayAt_7 rfl (lv_at hl 3 rfl) ?_
  refine lv_if_lt (tgt := 42) hx hb dX8_dayAt_8 (by decide) (fun c1 => ?_) (fun c1 => ?_)
  · have h := ite_t h c1
    exact w_X8_dayAt_42 X  h Y  (lv_sub hl [] rfl)
  · have h := ite_f h c1
    refine lv_aload_n hx hb dX8_dayAt_11 rfl (lv_at hl 0 rfl) ?_
    refine lv_aload_n hx hb dX8_dayAt_12 rfl (lv_at hl 0 rfl) ?_
    refine lv_iload_n hx hb dX8_dayAt_13 rfl (lv_at hl 3 rfl) ?_
    refine lv_iload_n hx hb dX8_dayAt_14 rfl (lv_at hl 1 rfl) ?_
    obtain ⟨v3, hc2, h⟩ := bnd1_s h
    refine k_cI Y (k_runV (As := [.int x3, .int x1]) (rest := [.ref (g.2.1 0)]) (o := 0) X Y cl_8_116 (c_X8_worthOf l hc2 _) ⟨rfl, rfl, Nat.le_of_ble_eq_true rfl, Nat.le_of_ble_eq_true rfl⟩ (Nat.le_of_ble_eq_true rfl) rfl rfl hl.1 rfl (Nat.le_of_ble_eq_true rfl) dX8_dayAt_15 ⟨Nat.zero_le _, Nat.zero_le _⟩) (fun H locs Y => ?_)
    refine lv_iload_n hx hb dX8_dayAt_18 rfl (lv_at hl 2 rfl) ?_
    refine lv_icmp_lt (tgt := 31) hx hb dX8_dayAt_19 (by decide) (fun c4 => ?_) (fun c4 => ?_)
    · have h := ite_t h c4
      refine lv_iconst (v := 0) hx hb dX8_dayAt_31 (by decide) ?_
      exact w_X8_dayAt_32 X rc7 hrc7 h Y  (lv_sub hl [0, 1, 2, 3] rfl)
    · have h := ite_f h c4
      refine lv_aload_n hx hb dX8_dayAt_22 rfl (lv_at hl 0 rfl) ?_
      refine k_get (v := .ref (g.2.1 2)) X Y fl_8_13 0 (Nat.le_of_ble_eq_true rfl) rfl rfl dX8_dayAt_23 ?_
      refine lv_iload_n hx hb dX8_dayAt_26 rfl (lv_at hl 3 rfl) ?_
      obtain ⟨i5, h⟩ := cix_s h
      refine k_iald X Y 2 (Nat.le_of_ble_eq_true rfl) (fun _ _ => rfl) i5 dX8_dayAt_27 ?_
      refine lv_goto (tgt := 32) hx hb dX8_dayAt_28 (by decide) ?_
      exact w_X8_dayAt_32 X rc7 hrc7 h Y  (lv_sub hl [0, 1, 2, 3] rfl)
theorem w_X8_dayAt_7 (X : Cx g p s m args meth c cX8_dayAt 4 RX8 none) {x1 : Int32} {x2 : Int32}  {st9 : Sg}   : ∀ (k : Nat) (x3 : Int32) (st : Sg) (ls : Array Slot) (H : Heap) (locs : List Loc), X8_dayAt_7 x1 x2 k x3 st = some st9 → Hp g nwM (ceM g) A s.heap st H locs → lv_has ls 4 [(0, .ref (g.2.1 0)), (1, .int x1), (2, .int x2), (3, .int x3)] → W p l e rm_X8_dayAt s m args below meth c H locs 0 0 (MQ below (QV g nwM (ceM g) A st9) args s 0 0 A) (F0 m 7 ls []) := by
  intro k
  induction k with
  | zero =>
    intro x3 st ls H locs h
    exact none_s h
  | succ k ih =>
    intro x3 st ls H locs h Y hl
    exact w_X8_dayAt_7b X  (X8_dayAt_7 x1 x2 k) ih h Y  hl
set_option maxHeartbeats 4000000 in
set_option maxRecDepth 100000 in
theorem w_X8_dayAt (X : Cx g p s m args meth c cX8_dayAt 4 RX8 none) {x1 : Int32} {x2 : Int32} {st : Sg} {st9 : Sg}  (h : X8_dayAt x1 x2 st = some st9) (Y : Hp g nwM (ceM g) A s.heap st H locs)  (hl : lv_has ls 4 [(0, .ref (g.2.1 0)), (1, .int x1), (2, .int x2)]) : W p l e rm_X8_dayAt s m args below meth c H locs 0 0 (MQ below (QV g nwM (ceM g) A st9) args s 0 0 A) (F0 m 0 ls []) := by
  have hx := X.1
  have hb := X.2.1
  unfold X8_dayAt at h
  refine lv_aload_n hx hb dX8_dayAt_0 rfl (lv_at hl 0 rfl) ?_
  refine k_get (v := .int (st.1 0 9)) X Y fl_8_103 0 (Nat.le_of_ble_eq_true rfl) rfl rfl dX8_dayAt_1 ?_
  refine lv_iconst (v := 1) hx hb dX8_dayAt_4 (by decide) ?_
  refine lv_isub hx hb dX8_dayAt_5 ?_
  obtain ⟨v1, ev1, h⟩ := nm_s h
  refine k_nmI ev1 ?_
  refine lv_istore_n (lv' := [(3, .int v1), (0, .ref (g.2.1 0)), (1, .int x1), (2, .int x2)]) hx hb dX8_dayAt_6 rfl hl (by decide) rfl (fun ls hl => ?_)
  exact w_X8_dayAt_7 X   FU v1 st _ _ _ h Y (lv_sub hl [1, 2, 3, 0] rfl)
theorem c_X8_dayAt (l : Launch) {g : Gx} {x1 : Int32} {x2 : Int32} {st : Sg} {st9 : Sg} (h : X8_dayAt x1 x2 st = some st9) : MetV l yX8_dayAt cX8_dayAt 4 none rm_X8_dayAt g nwM (ceM g) [.ref (g.2.1 0), .int x1, .int x2] st st9 :=
  met_of (Qc := fun A => QV g nwM (ceM g) A st9) (by decide) (Nat.le_of_ble_eq_true rfl) (fun p e s m below meth c A ls X Y hl => w_X8_dayAt X h Y hl)
def X8_findBest_198  (rc24 : Int64 → Int32 → Sg → Option Sg) (rc76 : Int32 → Sg → Option Sg) (rc135 : Int32 → Sg → Option Sg) (x1 : Int64) (x3 : Int32) (x4 : Int32) (x5 : Int32) (st : Sg) : Option Sg :=
  nm (x5 + 1) fun v1 =>
  rc135 v1 st
def X8_findBest_204  (rc24 : Int64 → Int32 → Sg → Option Sg) (rc76 : Int32 → Sg → Option Sg) (x1 : Int64) (x3 : Int32) (x4 : Int32) (st : Sg) : Option Sg :=
  nm (x4 + 1) fun v1 =>
  rc76 v1 st
def X8_findBest_135b  (rc24 : Int64 → Int32 → Sg → Option Sg) (rc76 : Int32 → Sg → Option Sg) (rc135 : Int32 → Sg → Option Sg) (x1 : Int64) (x3 : Int32) (x4 : Int32) (x5 : Int32) (st : Sg) : Option Sg :=
  if (12 : Int32) < x5 then
    X8_findBest_204 rc24 rc76 x1 x3 x4 st
  else
    cix x5 13 <|
    cix ((13 * x3) + x5) 91 <|
    if (lg_cmp (st.2 7 x5.toNatClampNeg) (st.2 8 ((13 * x3) + x5).toNatClampNeg)) ≤ (0 : Int32) then
      X8_findBest_198 rc24 rc76 rc135 x1 x3 x4 x5 st
    else
      cix x5 13 <|
      cix ((13 * x3) + x5) 91 <|
      nm (sJ st 8 ((13 * x3) + x5).toNatClampNeg (st.2 7 x5.toNatClampNeg)) fun st7 =>
      cix ((13 * x3) + x5) 78 <|
      nm (sI st7 9 ((13 * x3) + x5).toNatClampNeg x4) fun st9 =>
      X8_findBest_198 rc24 rc76 rc135 x1 x3 x4 x5 st9
def X8_findBest_135  (rc24 : Int64 → Int32 → Sg → Option Sg) (rc76 : Int32 → Sg → Option Sg) (x1 : Int64) (x3 : Int32) (x4 : Int32) : Nat → Int32 → Sg → Option Sg
  | 0, _, _ => none
  | k + 1, x5, st => X8_findBest_135b  rc24 rc76 (X8_findBest_135 rc24 rc76 x1 x3 x4 k) x1 x3 x4 x5 st
def X8_findBest_120  (rc24 : Int64 → Int32 → Sg → Option Sg) (rc76 : Int32 → Sg → Option Sg) (x1 : Int64) (x3 : Int32) (x4 : Int32) (st : Sg) : Option Sg :=
  cix x4 5 <|
  bnd1 (X8_dayAt x3 (st.1 1 x4.toNatClampNeg) st) fun st3 =>
  X8_findBest_135 rc24 rc76 x1 x3 x4 FU 0 st3
def X8_findBest_93b  (rc24 : Int64 → Int32 → Sg → Option Sg) (rc76 : Int32 → Sg → Option Sg) (rc93 : Int32 → Sg → Option Sg) (x1 : Int64) (x3 : Int32) (x4 : Int32) (x5 : Int32) (st : Sg) : Option Sg :=
  if (12 : Int32) < x5 then
    X8_findBest_120 rc24 rc76 x1 x3 x4 st
  else
    cix x5 13 <|
    cix x5 13 <|
    nm (sJ st 7 x5.toNatClampNeg (st.2 10 x5.toNatClampNeg)) fun st4 =>
    nm (x5 + 1) fun v5 =>
    rc93 v5 st4
def X8_findBest_93  (rc24 : Int64 → Int32 → Sg → Option Sg) (rc76 : Int32 → Sg → Option Sg) (x1 : Int64) (x3 : Int32) (x4 : Int32) : Nat → Int32 → Sg → Option Sg
  | 0, _, _ => none
  | k + 1, x5, st => X8_findBest_93b  rc24 rc76 (X8_findBest_93 rc24 rc76 x1 x3 x4 k) x1 x3 x4 x5 st
def X8_findBest_245  (rc24 : Int64 → Int32 → Sg → Option Sg) (x3 : Int32) (st : Sg) : Option Sg :=
  nm (st.2 0 12) fun v1 =>
  nm (x3 + (-1)) fun v2 =>
  rc24 v1 v2 st
def X8_findBest_213b  (rc24 : Int64 → Int32 → Sg → Option Sg) (rc213 : Int32 → Sg → Option Sg) (x3 : Int32) (x4 : Int32) (st : Sg) : Option Sg :=
  if (12 : Int32) < x4 then
    X8_findBest_245 rc24 x3 st
  else
    cix ((13 * x3) + x4) 91 <|
    cix x4 13 <|
    nm (sJ st 7 x4.toNatClampNeg (st.2 8 ((13 * x3) + x4).toNatClampNeg)) fun st4 =>
    nm (x4 + 1) fun v5 =>
    rc213 v5 st4
def X8_findBest_213  (rc24 : Int64 → Int32 → Sg → Option Sg) (x3 : Int32) : Nat → Int32 → Sg → Option Sg
  | 0, _, _ => none
  | k + 1, x4, st => X8_findBest_213b  rc24 (X8_findBest_213 rc24 x3 k) x3 x4 st
def X8_findBest_210  (rc24 : Int64 → Int32 → Sg → Option Sg) (x3 : Int32) (st : Sg) : Option Sg :=
  X8_findBest_213 rc24 x3 FU 0 st
def X8_findBest_76b  (rc24 : Int64 → Int32 → Sg → Option Sg) (rc76 : Int32 → Sg → Option Sg) (x1 : Int64) (x3 : Int32) (x4 : Int32) (st : Sg) : Option Sg :=
  if (st.1 0 4) ≤ x4 then
    X8_findBest_210 rc24 x3 st
  else
    nm (sJ st 0 12 x1) fun st2 =>
    X8_findBest_93 rc24 rc76 x1 x3 x4 FU 0 st2
def X8_findBest_76  (rc24 : Int64 → Int32 → Sg → Option Sg) (x1 : Int64) (x3 : Int32) : Nat → Int32 → Sg → Option Sg
  | 0, _, _ => none
  | k + 1, x4, st => X8_findBest_76b  rc24 (X8_findBest_76 rc24 x1 x3 k) x1 x3 x4 st
def X8_findBest_73  (rc24 : Int64 → Int32 → Sg → Option Sg) (x1 : Int64) (x3 : Int32) (st : Sg) : Option Sg :=
  X8_findBest_76 rc24 x1 x3 FU 0 st
def X8_findBest_31b  (rc24 : Int64 → Int32 → Sg → Option Sg) (rc31 : Int32 → Sg → Option Sg) (x1 : Int64) (x3 : Int32) (x4 : Int32) (st : Sg) : Option Sg :=
  if (12 : Int32) < x4 then
    X8_findBest_73 rc24 x1 x3 st
  else
    cix x4 13 <|
    cix x4 13 <|
    nm (sJ st 10 x4.toNatClampNeg (st.2 7 x4.toNatClampNeg)) fun st4 =>
    cix ((13 * x3) + x4) 91 <|
    nm (sJ st4 8 ((13 * x3) + x4).toNatClampNeg (-1)) fun st6 =>
    nm (x4 + 1) fun v7 =>
    rc31 v7 st6
def X8_findBest_31  (rc24 : Int64 → Int32 → Sg → Option Sg) (x1 : Int64) (x3 : Int32) : Nat → Int32 → Sg → Option Sg
  | 0, _, _ => none
  | k + 1, x4, st => X8_findBest_31b  rc24 (X8_findBest_31 rc24 x1 x3 k) x1 x3 x4 st
def X8_findBest_256    (st : Sg) : Option Sg :=
  some st
def X8_findBest_24b  (rc24 : Int64 → Int32 → Sg → Option Sg) (x1 : Int64) (x3 : Int32) (st : Sg) : Option Sg :=
  if x3 < (0 : Int32) then
    X8_findBest_256 st
  else
    X8_findBest_31 rc24 x1 x3 FU 0 st
def X8_findBest_24    : Nat → Int64 → Int32 → Sg → Option Sg
  | 0, _, _, _ => none
  | k + 1, x1, x3, st => X8_findBest_24b   (X8_findBest_24 k) x1 x3 st
def X8_findBest    (st : Sg) : Option Sg :=
  bnd1 (X8_beginEnd st) fun st2 =>
  nm (st2.2 0 12) fun v3 =>
  bnd1 (X8_keepRow (st2.1 0 1) st2) fun st5 =>
  nm ((st5.1 0 1) - 1) fun v6 =>
  X8_findBest_24 FU v3 v6 st5
abbrev rm_X8_findBest : Room := { frames := 2, cells := 0, slots := 0, locals := 47 }
set_option maxHeartbeats 4000000 in
set_option maxRecDepth 100000 in
theorem w_X8_findBest_198 (X : Cx g p s m args meth c cX8_findBest 6 RX8 none) {x1 : Int64} {x3 : Int32} {x4 : Int32} {x5 : Int32} {st : Sg} {st9 : Sg} (rc24 : Int64 → Int32 → Sg → Option Sg) (hrc24 : ∀ (x1 : Int64) (x3 : Int32) (st : Sg) (ls : Array Slot) (H : Heap) (locs : List Loc), rc24 x1 x3 st = some st9 → Hp g nwM (ceM g) A s.heap st H locs → lv_has ls 6 [(0, .ref (g.2.1 0)), (1, .long x1), (3, .int x3)] → W p l e rm_X8_findBest s m args below meth c H locs 0 0 (MQ below (QV g nwM (ceM g) A st9) args s 0 0 A) (F0 m 24 ls [])) (rc76 : Int32 → Sg → Option Sg) (hrc76 : ∀ (x4 : Int32) (st : Sg) (ls : Array Slot) (H : Heap) (locs : List Loc), rc76 x4 st = some st9 → Hp g nwM (ceM g) A s.heap st H locs → lv_has ls 6 [(0, .ref (g.2.1 0)), (1, .long x1), (3, .int x3), (4, .int x4)] → W p l e rm_X8_findBest s m args below meth c H locs 0 0 (MQ below (QV g nwM (ceM g) A st9) args s 0 0 A) (F0 m 76 ls [])) (rc135 : Int32 → Sg → Option Sg) (hrc135 : ∀ (x5 : Int32) (st : Sg) (ls : Array Slot) (H : Heap) (locs : List Loc), rc135 x5 st = some st9 → Hp g nwM (ceM g) A s.heap st H locs → lv_has ls 6 [(0, .ref (g.2.1 0)), (1, .long x1), (3, .int x3), (4, .int x4), (5, .int x5)] → W p l e rm_X8_findBest s m args below meth c H locs 0 0 (MQ below (QV g nwM (ceM g) A st9) args s 0 0 A) (F0 m 135 ls [])) (h : X8_findBest_198 rc24 rc76 rc135 x1 x3 x4 x5 st = some st9) (Y : Hp g nwM (ceM g) A s.heap st H locs)  (hl : lv_has ls 6 [(0, .ref (g.2.1 0)), (1, .long x1), (3, .int x3), (4, .int x4), (5, .int x5)]) : W p l e rm_X8_findBest s m args below meth c H locs 0 0 (MQ below (QV g nwM (ceM g) A st9) args s 0 0 A) (F0 m 198 ls []) := by
  have hx := X.1
  have hb := X.2.1
  unfold X8_findBest_198 at h
  obtain ⟨v1, ev1, h⟩ := nm_s h
  refine lv_iinc (v := v1) (lv' := [(5, .int v1), (0, .ref (g.2.1 0)), (1, .long x1), (3, .int x3), (4, .int x4)]) hx hb dX8_findBest_198 hl (k := 4) rfl (by rw [ev1]; rfl) (by decide) rfl (fun ls hl => ?_)
  refine lv_goto (tgt := 135) hx hb dX8_findBest_201 (by decide) ?_
  exact hrc135 v1 st _ _ _ h Y (lv_sub hl [1, 2, 3, 4, 0] rfl)
set_option maxHeartbeats 4000000 in
set_option maxRecDepth 100000 in
theorem w_X8_findBest_204 (X : Cx g p s m args meth c cX8_findBest 6 RX8 none) {x1 : Int64} {x3 : Int32} {x4 : Int32} {st : Sg} {st9 : Sg} (rc24 : Int64 → Int32 → Sg → Option Sg) (hrc24 : ∀ (x1 : Int64) (x3 : Int32) (st : Sg) (ls : Array Slot) (H : Heap) (locs : List Loc), rc24 x1 x3 st = some st9 → Hp g nwM (ceM g) A s.heap st H locs → lv_has ls 6 [(0, .ref (g.2.1 0)), (1, .long x1), (3, .int x3)] → W p l e rm_X8_findBest s m args below meth c H locs 0 0 (MQ below (QV g nwM (ceM g) A st9) args s 0 0 A) (F0 m 24 ls [])) (rc76 : Int32 → Sg → Option Sg) (hrc76 : ∀ (x4 : Int32) (st : Sg) (ls : Array Slot) (H : Heap) (locs : List Loc), rc76 x4 st = some st9 → Hp g nwM (ceM g) A s.heap st H locs → lv_has ls 6 [(0, .ref (g.2.1 0)), (1, .long x1), (3, .int x3), (4, .int x4)] → W p l e rm_X8_findBest s m args below meth c H locs 0 0 (MQ below (QV g nwM (ceM g) A st9) args s 0 0 A) (F0 m 76 ls [])) (h : X8_findBest_204 rc24 rc76 x1 x3 x4 st = some st9) (Y : Hp g nwM (ceM g) A s.heap st H locs)  (hl : lv_has ls 6 [(0, .ref (g.2.1 0)), (1, .long x1), (3, .int x3), (4, .int x4)]) : W p l e rm_X8_findBest s m args below meth c H locs 0 0 (MQ below (QV g nwM (ceM g) A st9) args s 0 0 A) (F0 m 204 ls []) := by
  have hx := X.1
  have hb := X.2.1
  unfold X8_findBest_204 at h
  obtain ⟨v1, ev1, h⟩ := nm_s h
  refine lv_iinc (v := v1) (lv' := [(4, .int v1), (0, .ref (g.2.1 0)), (1, .long x1), (3, .int x3)]) hx hb dX8_findBest_204 hl (k := 3) rfl (by rw [ev1]; rfl) (by decide) rfl (fun ls hl => ?_)
  refine lv_goto (tgt := 76) hx hb dX8_findBest_207 (by decide) ?_
  exact hrc76 v1 st _ _ _ h Y (lv_sub hl [1, 2, 3, 0] rfl)
set_option maxHeartbeats 4000000 in
set_option maxRecDepth 100000 in
theorem w_X8_findBest_135b (X : Cx g p s m args meth c cX8_findBest 6 RX8 none) {x1 : Int64} {x3 : Int32} {x4 : Int32} {x5 : Int32} {st : Sg} {st9 : Sg} (rc24 : Int64 → Int32 → Sg → Option Sg) (hrc24 : ∀ (x1 : Int64) (x3 : Int32) (st : Sg) (ls : Array Slot) (H : Heap) (locs : List Loc), rc24 x1 x3 st = some st9 → Hp g nwM (ceM g) A s.heap st H locs → lv_has ls 6 [(0, .ref (g.2.1 0)), (1, .long x1), (3, .int x3)] → W p l e rm_X8_findBest s m args below meth c H locs 0 0 (MQ below (QV g nwM (ceM g) A st9) args s 0 0 A) (F0 m 24 ls [])) (rc76 : Int32 → Sg → Option Sg) (hrc76 : ∀ (x4 : Int32) (st : Sg) (ls : Array Slot) (H : Heap) (locs : List Loc), rc76 x4 st = some st9 → Hp g nwM (ceM g) A s.heap st H locs → lv_has ls 6 [(0, .ref (g.2.1 0)), (1, .long x1), (3, .int x3), (4, .int x4)] → W p l e rm_X8_findBest s m args below meth c H locs 0 0 (MQ below (QV g nwM (ceM g) A st9) args s 0 0 A) (F0 m 76 ls [])) (rc135 : Int32 → Sg → Option Sg) (hrc135 : ∀ (x5 : Int32) (st : Sg) (ls : Array Slot) (H : Heap) (locs : List Loc), rc135 x5 st = some st9 → Hp g nwM (ceM g) A s.heap st H locs → lv_has ls 6 [(0, .ref (g.2.1 0)), (1, .long x1), (3, .int x3), (4, .int x4), (5, .int x5)] → W p l e rm_X8_findBest s m args below meth c H locs 0 0 (MQ below (QV g nwM (ceM g) A st9) args s 0 0 A) (F0 m 135 ls [])) (h : X8_findBest_135b rc24 rc76 rc135 x1 x3 x4 x5 st = some st9) (Y : Hp g nwM (ceM g) A s.heap st H locs)  (hl : lv_has ls 6 [(0, .ref (g.2.1 0)), (1, .long x1), (3, .int x3), (4, .int x4), (5, .int x5)]) : W p l e rm_X8_findBest s m args below meth c H locs 0 0 (MQ below (QV g nwM (ceM g) A st9) args s 0 0 A) (F0 m 135 ls []) := by
  have hx := X.1
  have hb := X.2.1
  unfold X8_findBest_135b at h
  refine lv_iload hx hb dX8_findBest_135 (lv_at hl 4 rfl) ?_
  refine lv_bipush (v := 12) hx hb dX8_findBest_137 (by decide) ?_
  refine lv_icmp_gt (tgt := 204) hx hb dX8_findBest_139 (by decide) (fun c1 => ?_) (fun c1 => ?_)
  · have h := ite_t h c1
    exact w_X8_findBest_204 X rc24 hrc24 rc76 hrc76 h Y  (lv_sub hl [0, 1, 2, 3] rfl)
  · have h := ite_f h c1
    refine lv_aload_n hx hb dX8_findBest_142 rfl (lv_at hl 0 rfl) ?_
    refine k_get (v := .ref (g.2.1 7)) X Y fl_8_28 0 (Nat.le_of_ble_eq_true rfl) rfl rfl dX8_findBest_143 ?_
    refine lv_iload hx hb dX8_findBest_146 (lv_at hl 4 rfl) ?_
    obtain ⟨i2, h⟩ := cix_s h
    refine k_lald X Y 7 (Nat.le_of_ble_eq_true rfl) (fun _ _ => rfl) i2 dX8_findBest_148 ?_
    refine lv_aload_n hx hb dX8_findBest_149 rfl (lv_at hl 0 rfl) ?_
    refine k_get (v := .ref (g.2.1 8)) X Y fl_8_32 0 (Nat.le_of_ble_eq_true rfl) rfl rfl dX8_findBest_150 ?_
    refine lv_bipush (v := 13) hx hb dX8_findBest_153 (by decide) ?_
    refine lv_iload_n hx hb dX8_findBest_155 rfl (lv_at hl 2 rfl) ?_
    refine lv_imul hx hb dX8_findBest_156 ?_
    refine lv_iload hx hb dX8_findBest_157 (lv_at hl 4 rfl) ?_
    refine lv_iadd hx hb dX8_findBest_159 ?_
    obtain ⟨i3, h⟩ := cix_s h
    refine k_lald X Y 8 (Nat.le_of_ble_eq_true rfl) (fun _ _ => rfl) i3 dX8_findBest_160 ?_
    refine W.lcmp hx hb dX8_findBest_161 ?_
    refine lv_if_le (tgt := 198) hx hb dX8_findBest_162 (by decide) (fun c4 => ?_) (fun c4 => ?_)
    · have h := ite_t h c4
      exact w_X8_findBest_198 X rc24 hrc24 rc76 hrc76 rc135 hrc135 h Y  (lv_sub hl [0, 1, 2, 3, 4] rfl)
    · have h := ite_f h c4
      refine lv_aload_n hx hb dX8_findBest_165 rfl (lv_at hl 0 rfl) ?_
      refine k_get (v := .ref (g.2.1 8)) X Y fl_8_32 0 (Nat.le_of_ble_eq_true rfl) rfl rfl dX8_findBest_166 ?_
      refine lv_bipush (v := 13) hx hb dX8_findBest_169 (by decide) ?_
      refine lv_iload_n hx hb dX8_findBest_171 rfl (lv_at hl 2 rfl) ?_
      refine lv_imul hx hb dX8_findBest_172 ?_
      refine lv_iload hx hb dX8_findBest_173 (lv_at hl 4 rfl) ?_
      refine lv_iadd hx hb dX8_findBest_175 ?_
      refine lv_aload_n hx hb dX8_findBest_176 rfl (lv_at hl 0 rfl) ?_
      refine k_get (v := .ref (g.2.1 7)) X Y fl_8_28 0 (Nat.le_of_ble_eq_true rfl) rfl rfl dX8_findBest_177 ?_
      refine lv_iload hx hb dX8_findBest_180 (lv_at hl 4 rfl) ?_
      obtain ⟨i5, h⟩ := cix_s h
      refine k_lald X Y 7 (Nat.le_of_ble_eq_true rfl) (fun _ _ => rfl) i5 dX8_findBest_182 ?_
      obtain ⟨i6, h⟩ := cix_s h
      refine k_last X Y 8 (Nat.le_of_ble_eq_true rfl) (fun _ _ => rfl) i6 dX8_findBest_183 (fun H locs Y => ?_)
      obtain ⟨st7, est7, h⟩ := nm_s h
      have Y : Hp g nwM (ceM g) A s.heap st7 H locs := by rw [est7]; exact Y
      refine lv_aload_n hx hb dX8_findBest_184 rfl (lv_at hl 0 rfl) ?_
      refine k_get (v := .ref (g.2.1 9)) X Y fl_8_35 0 (Nat.le_of_ble_eq_true rfl) rfl rfl dX8_findBest_185 ?_
      refine lv_bipush (v := 13) hx hb dX8_findBest_188 (by decide) ?_
      refine lv_iload_n hx hb dX8_findBest_190 rfl (lv_at hl 2 rfl) ?_
      refine lv_imul hx hb dX8_findBest_191 ?_
      refine lv_iload hx hb dX8_findBest_192 (lv_at hl 4 rfl) ?_
      refine lv_iadd hx hb dX8_findBest_194 ?_
      refine lv_iload hx hb dX8_findBest_195 (lv_at hl 3 rfl) ?_
      obtain ⟨i8, h⟩ := cix_s h
      refine k_iast X Y 9 (Nat.le_of_ble_eq_true rfl) (fun _ _ => rfl) i8 dX8_findBest_197 (fun H locs Y => ?_)
      obtain ⟨st9, est9, h⟩ := nm_s h
      have Y : Hp g nwM (ceM g) A s.heap st9 H locs := by rw [est9]; exact Y
      exact w_X8_findBest_198 X rc24 hrc24 rc76 hrc76 rc135 hrc135 h Y  (lv_sub hl [0, 1, 2, 3, 4] rfl)
theorem w_X8_findBest_135 (X : Cx g p s m args meth c cX8_findBest 6 RX8 none) {x1 : Int64} {x3 : Int32} {x4 : Int32}  {st9 : Sg} (rc24 : Int64 → Int32 → Sg → Option Sg) (hrc24 : ∀ (x1 : Int64) (x3 : Int32) (st : Sg) (ls : Array Slot) (H : Heap) (locs : List Loc), rc24 x1 x3 st = some st9 → Hp g nwM (ceM g) A s.heap st H locs → lv_has ls 6 [(0, .ref (g.2.1 0)), (1, .long x1), (3, .int x3)] → W p l e rm_X8_findBest s m args below meth c H locs 0 0 (MQ below (QV g nwM (ceM g) A st9) args s 0 0 A) (F0 m 24 ls [])) (rc76 : Int32 → Sg → Option Sg) (hrc76 : ∀ (x4 : Int32) (st : Sg) (ls : Array Slot) (H : Heap) (locs : List Loc), rc76 x4 st = some st9 → Hp g nwM (ceM g) A s.heap st H locs → lv_has ls 6 [(0, .ref (g.2.1 0)), (1, .long x1), (3, .int x3), (4, .int x4)] → W p l e rm_X8_findBest s m args below meth c H locs 0 0 (MQ below (QV g nwM (ceM g) A st9) args s 0 0 A) (F0 m 76 ls []))  : ∀ (k : Nat) (x5 : Int32) (st : Sg) (ls : Array Slot) (H : Heap) (locs : List Loc), X8_findBest_135 rc24 rc76 x1 x3 x4 k x5 st = some st9 → Hp g nwM (ceM g) A s.heap st H locs → lv_has ls 6 [(0, .ref (g.2.1 0)), (1, .long x1), (3, .int x3), (4, .int x4), (5, .int x5)] → W p l e rm_X8_findBest s m args below meth c H locs 0 0 (MQ below (QV g nwM (ceM g) A st9) args s 0 0 A) (F0 m 135 ls []) := by
  intro k
  induction k with
  | zero =>
    intro x5 st ls H locs h
    exact none_s h
  | succ k ih =>
    intro x5 st ls H locs h Y hl
    exact w_X8_findBest_135b X rc24 hrc24 rc76 hrc76 (X8_findBest_135 rc24 rc76 x1 x3 x4 k) ih h Y  hl
set_option maxHeartbeats 4000000 in
set_option maxRecDepth 100000 in
theorem w_X8_findBest_120 (X : Cx g p s m args meth c cX8_findBest 6 RX8 none) {x1 : Int64} {x3 : Int32} {x4 : Int32} {st : Sg} {st9 : Sg} (rc24 : Int64 → Int32 → Sg → Option Sg) (hrc24 : ∀ (x1 : Int64) (x3 : Int32) (st : Sg) (ls : Array Slot) (H : Heap) (locs : List Loc), rc24 x1 x3 st = some st9 → Hp g nwM (ceM g) A s.heap st H locs → lv_has ls 6 [(0, .ref (g.2.1 0)), (1, .long x1), (3, .int x3)] → W p l e rm_X8_findBest s m args below meth c H locs 0 0 (MQ below (QV g nwM (ceM g) A st9) args s 0 0 A) (F0 m 24 ls [])) (rc76 : Int32 → Sg → Option Sg) (hrc76 : ∀ (x4 : Int32) (st : Sg) (ls : Array Slot) (H : Heap) (locs : List Loc), rc76 x4 st = some st9 → Hp g nwM (ceM g) A s.heap st H locs → lv_has ls 6 [(0, .ref (g.2.1 0)), (1, .long x1), (3, .int x3), (4, .int x4)] → W p l e rm_X8_findBest s m args below meth c H locs 0 0 (MQ below (QV g nwM (ceM g) A st9) args s 0 0 A) (F0 m 76 ls [])) (h : X8_findBest_120 rc24 rc76 x1 x3 x4 st = some st9) (Y : Hp g nwM (ceM g) A s.heap st H locs)  (hl : lv_has ls 6 [(0, .ref (g.2.1 0)), (1, .long x1), (3, .int x3), (4, .int x4)]) : W p l e rm_X8_findBest s m args below meth c H locs 0 0 (MQ below (QV g nwM (ceM g) A st9) args s 0 0 A) (F0 m 120 ls []) := by
  have hx := X.1
  have hb := X.2.1
  unfold X8_findBest_120 at h
  refine lv_aload_n hx hb dX8_findBest_120 rfl (lv_at hl 0 rfl) ?_
  refine lv_iload_n hx hb dX8_findBest_121 rfl (lv_at hl 2 rfl) ?_
  refine lv_aload_n hx hb dX8_findBest_122 rfl (lv_at hl 0 rfl) ?_
  refine k_get (v := .ref (g.2.1 1)) X Y fl_8_7 0 (Nat.le_of_ble_eq_true rfl) rfl rfl dX8_findBest_123 ?_
  refine lv_iload hx hb dX8_findBest_126 (lv_at hl 3 rfl) ?_
  obtain ⟨i1, h⟩ := cix_s h
  refine k_iald X Y 1 (Nat.le_of_ble_eq_true rfl) (fun _ _ => rfl) i1 dX8_findBest_128 ?_
  obtain ⟨st3, hc2, h⟩ := bnd1_s h
  refine k_cV Y (k_runV (As := [.int x3, .int (st.1 1 x4.toNatClampNeg)]) (rest := []) (o := 0) X Y cl_8_135 (c_X8_dayAt l hc2 _) ⟨rfl, rfl, Nat.le_of_ble_eq_true rfl, Nat.le_of_ble_eq_true rfl⟩ (Nat.le_of_ble_eq_true rfl) rfl rfl hl.1 rfl (Nat.le_of_ble_eq_true rfl) dX8_findBest_129 ⟨Nat.zero_le _, Nat.zero_le _⟩) (fun H locs Y => ?_)
  refine lv_iconst (v := 0) hx hb dX8_findBest_132 (by decide) ?_
  refine lv_istore (lv' := [(5, .int 0), (0, .ref (g.2.1 0)), (1, .long x1), (3, .int x3), (4, .int x4)]) hx hb dX8_findBest_133 hl (by decide) rfl (fun ls hl => ?_)
  exact w_X8_findBest_135 X rc24 hrc24 rc76 hrc76  FU 0 st3 _ _ _ h Y (lv_sub hl [1, 2, 3, 4, 0] rfl)
set_option maxHeartbeats 4000000 in
set_option maxRecDepth 100000 in
theorem w_X8_findBest_93b (X : Cx g p s m args meth c cX8_findBest 6 RX8 none) {x1 : Int64} {x3 : Int32} {x4 : Int32} {x5 : Int32} {st : Sg} {st9 : Sg} (rc24 : Int64 → Int32 → Sg → Option Sg) (hrc24 : ∀ (x1 : Int64) (x3 : Int32) (st : Sg) (ls : Array Slot) (H : Heap) (locs : List Loc), rc24 x1 x3 st = some st9 → Hp g nwM (ceM g) A s.heap st H locs → lv_has ls 6 [(0, .ref (g.2.1 0)), (1, .long x1), (3, .int x3)] → W p l e rm_X8_findBest s m args below meth c H locs 0 0 (MQ below (QV g nwM (ceM g) A st9) args s 0 0 A) (F0 m 24 ls [])) (rc76 : Int32 → Sg → Option Sg) (hrc76 : ∀ (x4 : Int32) (st : Sg) (ls : Array Slot) (H : Heap) (locs : List Loc), rc76 x4 st = some st9 → Hp g nwM (ceM g) A s.heap st H locs → lv_has ls 6 [(0, .ref (g.2.1 0)), (1, .long x1), (3, .int x3), (4, .int x4)] → W p l e rm_X8_findBest s m args below meth c H locs 0 0 (MQ below (QV g nwM (ceM g) A st9) args s 0 0 A) (F0 m 76 ls [])) (rc93 : Int32 → Sg → Option Sg) (hrc93 : ∀ (x5 : Int32) (st : Sg) (ls : Array Slot) (H : Heap) (locs : List Loc), rc93 x5 st = some st9 → Hp g nwM (ceM g) A s.heap st H locs → lv_has ls 6 [(0, .ref (g.2.1 0)), (1, .long x1), (3, .int x3), (4, .int x4), (5, .int x5)] → W p l e rm_X8_findBest s m args below meth c H locs 0 0 (MQ below (QV g nwM (ceM g) A st9) args s 0 0 A) (F0 m 93 ls [])) (h : X8_findBest_93b rc24 rc76 rc93 x1 x3 x4 x5 st = some st9) (Y : Hp g nwM (ceM g) A s.heap st H locs)  (hl : lv_has ls 6 [(0, .ref (g.2.1 0)), (1, .long x1), (3, .int x3), (4, .int x4), (5, .int x5)]) : W p l e rm_X8_findBest s m args below meth c H locs 0 0 (MQ below (QV g nwM (ceM g) A st9) args s 0 0 A) (F0 m 93 ls []) := by
  have hx := X.1
  have hb := X.2.1
  unfold X8_findBest_93b at h
  refine lv_iload hx hb dX8_findBest_93 (lv_at hl 4 rfl) ?_
  refine lv_bipush (v := 12) hx hb dX8_findBest_95 (by decide) ?_
  refine lv_icmp_gt (tgt := 120) hx hb dX8_findBest_97 (by decide) (fun c1 => ?_) (fun c1 => ?_)
  · have h := ite_t h c1
    exact w_X8_findBest_120 X rc24 hrc24 rc76 hrc76 h Y  (lv_sub hl [0, 1, 2, 3] rfl)
  · have h := ite_f h c1
    refine lv_aload_n hx hb dX8_findBest_100 rfl (lv_at hl 0 rfl) ?_
    refine k_get (v := .ref (g.2.1 7)) X Y fl_8_28 0 (Nat.le_of_ble_eq_true rfl) rfl rfl dX8_findBest_101 ?_
    refine lv_iload hx hb dX8_findBest_104 (lv_at hl 4 rfl) ?_
    refine lv_aload_n hx hb dX8_findBest_106 rfl (lv_at hl 0 rfl) ?_
    refine k_get (v := .ref (g.2.1 10)) X Y fl_8_38 0 (Nat.le_of_ble_eq_true rfl) rfl rfl dX8_findBest_107 ?_
    refine lv_iload hx hb dX8_findBest_110 (lv_at hl 4 rfl) ?_
    obtain ⟨i2, h⟩ := cix_s h
    refine k_lald X Y 10 (Nat.le_of_ble_eq_true rfl) (fun _ _ => rfl) i2 dX8_findBest_112 ?_
    obtain ⟨i3, h⟩ := cix_s h
    refine k_last X Y 7 (Nat.le_of_ble_eq_true rfl) (fun _ _ => rfl) i3 dX8_findBest_113 (fun H locs Y => ?_)
    obtain ⟨st4, est4, h⟩ := nm_s h
    have Y : Hp g nwM (ceM g) A s.heap st4 H locs := by rw [est4]; exact Y
    obtain ⟨v5, ev5, h⟩ := nm_s h
    refine lv_iinc (v := v5) (lv' := [(5, .int v5), (0, .ref (g.2.1 0)), (1, .long x1), (3, .int x3), (4, .int x4)]) hx hb dX8_findBest_114 hl (k := 4) rfl (by rw [ev5]; rfl) (by decide) rfl (fun ls hl => ?_)
    refine lv_goto (tgt := 93) hx hb dX8_findBest_117 (by decide) ?_
    exact hrc93 v5 st4 _ _ _ h Y (lv_sub hl [1, 2, 3, 4, 0] rfl)
theorem w_X8_findBest_93 (X : Cx g p s m args meth c cX8_findBest 6 RX8 none) {x1 : Int64} {x3 : Int32} {x4 : Int32}  {st9 : Sg} (rc24 : Int64 → Int32 → Sg → Option Sg) (hrc24 : ∀ (x1 : Int64) (x3 : Int32) (st : Sg) (ls : Array Slot) (H : Heap) (locs : List Loc), rc24 x1 x3 st = some st9 → Hp g nwM (ceM g) A s.heap st H locs → lv_has ls 6 [(0, .ref (g.2.1 0)), (1, .long x1), (3, .int x3)] → W p l e rm_X8_findBest s m args below meth c H locs 0 0 (MQ below (QV g nwM (ceM g) A st9) args s 0 0 A) (F0 m 24 ls [])) (rc76 : Int32 → Sg → Option Sg) (hrc76 : ∀ (x4 : Int32) (st : Sg) (ls : Array Slot) (H : Heap) (locs : List Loc), rc76 x4 st = some st9 → Hp g nwM (ceM g) A s.heap st H locs → lv_has ls 6 [(0, .ref (g.2.1 0)), (1, .long x1), (3, .int x3), (4, .int x4)] → W p l e rm_X8_findBest s m args below meth c H locs 0 0 (MQ below (QV g nwM (ceM g) A st9) args s 0 0 A) (F0 m 76 ls []))  : ∀ (k : Nat) (x5 : Int32) (st : Sg) (ls : Array Slot) (H : Heap) (locs : List Loc), X8_findBest_93 rc24 rc76 x1 x3 x4 k x5 st = some st9 → Hp g nwM (ceM g) A s.heap st H locs → lv_has ls 6 [(0, .ref (g.2.1 0)), (1, .long x1), (3, .int x3), (4, .int x4), (5, .int x5)] → W p l e rm_X8_findBest s m args below meth c H locs 0 0 (MQ below (QV g nwM (ceM g) A st9) args s 0 0 A) (F0 m 93 ls []) := by
  intro k
  induction k with
  | zero =>
    intro x5 st ls H locs h
    exact none_s h
  | succ k ih =>
    intro x5 st ls H locs h Y hl
    exact w_X8_findBest_93b X rc24 hrc24 rc76 hrc76 (X8_findBest_93 rc24 rc76 x1 x3 x4 k) ih h Y  hl
set_option maxHeartbeats 4000000 in
set_option maxRecDepth 100000 in
theorem w_X8_findBest_245 (X : Cx g p s m args meth c cX8_findBest 6 RX8 none) {x3 : Int32} {st : Sg} {st9 : Sg} (rc24 : Int64 → Int32 → Sg → Option Sg) (hrc24 : ∀ (x1 : Int64) (x3 : Int32) (st : Sg) (ls : Array Slot) (H : Heap) (locs : List Loc), rc24 x1 x3 st = some st9 → Hp g nwM (ceM g) A s.heap st H locs → lv_has ls 6 [(0, .ref (g.2.1 0)), (1, .long x1), (3, .int x3)] → W p l e rm_X8_findBest s m args below meth c H locs 0 0 (MQ below (QV g nwM (ceM g) A st9) args s 0 0 A) (F0 m 24 ls [])) (h : X8_findBest_245 rc24 x3 st = some st9) (Y : Hp g nwM (ceM g) A s.heap st H locs)  (hl : lv_has ls 6 [(0, .ref (g.2.1 0)), (3, .int x3)]) : W p l e rm_X8_findBest s m args below meth c H locs 0 0 (MQ below (QV g nwM (ceM g) A st9) args s 0 0 A) (F0 m 245 ls []) := by
  have hx := X.1
  have hb := X.2.1
  unfold X8_findBest_245 at h
  refine lv_aload_n hx hb dX8_findBest_245 rfl (lv_at hl 0 rfl) ?_
  refine k_get (v := .long (st.2 0 12)) X Y fl_8_120 0 (Nat.le_of_ble_eq_true rfl) rfl rfl dX8_findBest_246 ?_
  obtain ⟨v1, ev1, h⟩ := nm_s h
  refine k_nmJ ev1 ?_
  refine lv_lstore_n (lv' := [(1, .long v1), (0, .ref (g.2.1 0)), (3, .int x3)]) hx hb dX8_findBest_249 rfl hl (by decide) rfl (fun ls hl => ?_)
  obtain ⟨v2, ev2, h⟩ := nm_s h
  refine lv_iinc (v := v2) (lv' := [(3, .int v2), (1, .long v1), (0, .ref (g.2.1 0))]) hx hb dX8_findBest_250 hl (k := 2) rfl (by rw [ev2]; rfl) (by decide) rfl (fun ls hl => ?_)
  refine lv_goto (tgt := 24) hx hb dX8_findBest_253 (by decide) ?_
  exact hrc24 v1 v2 st _ _ _ h Y (lv_sub hl [2, 1, 0] rfl)
set_option maxHeartbeats 4000000 in
set_option maxRecDepth 100000 in
theorem w_X8_findBest_213b (X : Cx g p s m args meth c cX8_findBest 6 RX8 none) {x3 : Int32} {x4 : Int32} {st : Sg} {st9 : Sg} (rc24 : Int64 → Int32 → Sg → Option Sg) (hrc24 : ∀ (x1 : Int64) (x3 : Int32) (st : Sg) (ls : Array Slot) (H : Heap) (locs : List Loc), rc24 x1 x3 st = some st9 → Hp g nwM (ceM g) A s.heap st H locs → lv_has ls 6 [(0, .ref (g.2.1 0)), (1, .long x1), (3, .int x3)] → W p l e rm_X8_findBest s m args below meth c H locs 0 0 (MQ below (QV g nwM (ceM g) A st9) args s 0 0 A) (F0 m 24 ls [])) (rc213 : Int32 → Sg → Option Sg) (hrc213 : ∀ (x4 : Int32) (st : Sg) (ls : Array Slot) (H : Heap) (locs : List Loc), rc213 x4 st = some st9 → Hp g nwM (ceM g) A s.heap st H locs → lv_has ls 6 [(0, .ref (g.2.1 0)), (3, .int x3), (4, .int x4)] → W p l e rm_X8_findBest s m args below meth c H locs 0 0 (MQ below (QV g nwM (ceM g) A st9) args s 0 0 A) (F0 m 213 ls [])) (h : X8_findBest_213b rc24 rc213 x3 x4 st = some st9) (Y : Hp g nwM (ceM g) A s.heap st H locs)  (hl : lv_has ls 6 [(0, .ref (g.2.1 0)), (3, .int x3), (4, .int x4)]) : W p l e rm_X8_findBest s m args below meth c H locs 0 0 (MQ below (QV g nwM (ceM g) A st9) args s 0 0 A) (F0 m 213 ls []) := by
  have hx := X.1
  have hb := X.2.1
  unfold X8_findBest_213b at h
  refine lv_iload hx hb dX8_findBest_213 (lv_at hl 2 rfl) ?_
  refine lv_bipush (v := 12) hx hb dX8_findBest_215 (by decide) ?_
  refine lv_icmp_gt (tgt := 245) hx hb dX8_findBest_217 (by decide) (fun c1 => ?_) (fun c1 => ?_)
  · have h := ite_t h c1
    exact w_X8_findBest_245 X rc24 hrc24 h Y  (lv_sub hl [0, 1] rfl)
  · have h := ite_f h c1
    refine lv_aload_n hx hb dX8_findBest_220 rfl (lv_at hl 0 rfl) ?_
    refine k_get (v := .ref (g.2.1 7)) X Y fl_8_28 0 (Nat.le_of_ble_eq_true rfl) rfl rfl dX8_findBest_221 ?_
    refine lv_iload hx hb dX8_findBest_224 (lv_at hl 2 rfl) ?_
    refine lv_aload_n hx hb dX8_findBest_226 rfl (lv_at hl 0 rfl) ?_
    refine k_get (v := .ref (g.2.1 8)) X Y fl_8_32 0 (Nat.le_of_ble_eq_true rfl) rfl rfl dX8_findBest_227 ?_
    refine lv_bipush (v := 13) hx hb dX8_findBest_230 (by decide) ?_
    refine lv_iload_n hx hb dX8_findBest_232 rfl (lv_at hl 1 rfl) ?_
    refine lv_imul hx hb dX8_findBest_233 ?_
    refine lv_iload hx hb dX8_findBest_234 (lv_at hl 2 rfl) ?_
    refine lv_iadd hx hb dX8_findBest_236 ?_
    obtain ⟨i2, h⟩ := cix_s h
    refine k_lald X Y 8 (Nat.le_of_ble_eq_true rfl) (fun _ _ => rfl) i2 dX8_findBest_237 ?_
    obtain ⟨i3, h⟩ := cix_s h
    refine k_last X Y 7 (Nat.le_of_ble_eq_true rfl) (fun _ _ => rfl) i3 dX8_findBest_238 (fun H locs Y => ?_)
    obtain ⟨st4, est4, h⟩ := nm_s h
    have Y : Hp g nwM (ceM g) A s.heap st4 H locs := by rw [est4]; exact Y
    obtain ⟨v5, ev5, h⟩ := nm_s h
    refine lv_iinc (v := v5) (lv' := [(4, .int v5), (0, .ref (g.2.1 0)), (3, .int x3)]) hx hb dX8_findBest_239 hl (k := 2) rfl (by rw [ev5]; rfl) (by decide) rfl (fun ls hl => ?_)
    refine lv_goto (tgt := 213) hx hb dX8_findBest_242 (by decide) ?_
    exact hrc213 v5 st4 _ _ _ h Y (lv_sub hl [1, 2, 0] rfl)
theorem w_X8_findBest_213 (X : Cx g p s m args meth c cX8_findBest 6 RX8 none) {x3 : Int32}  {st9 : Sg} (rc24 : Int64 → Int32 → Sg → Option Sg) (hrc24 : ∀ (x1 : Int64) (x3 : Int32) (st : Sg) (ls : Array Slot) (H : Heap) (locs : List Loc), rc24 x1 x3 st = some st9 → Hp g nwM (ceM g) A s.heap st H locs → lv_has ls 6 [(0, .ref (g.2.1 0)), (1, .long x1), (3, .int x3)] → W p l e rm_X8_findBest s m args below meth c H locs 0 0 (MQ below (QV g nwM (ceM g) A st9) args s 0 0 A) (F0 m 24 ls []))  : ∀ (k : Nat) (x4 : Int32) (st : Sg) (ls : Array Slot) (H : Heap) (locs : List Loc), X8_findBest_213 rc24 x3 k x4 st = some st9 → Hp g nwM (ceM g) A s.heap st H locs → lv_has ls 6 [(0, .ref (g.2.1 0)), (3, .int x3), (4, .int x4)] → W p l e rm_X8_findBest s m args below meth c H locs 0 0 (MQ below (QV g nwM (ceM g) A st9) args s 0 0 A) (F0 m 213 ls []) := by
  intro k
  induction k with
  | zero =>
    intro x4 st ls H locs h
    exact none_s h
  | succ k ih =>
    intro x4 st ls H locs h Y hl
    exact w_X8_findBest_213b X rc24 hrc24 (X8_findBest_213 rc24 x3 k) ih h Y  hl
set_option maxHeartbeats 4000000 in
set_option maxRecDepth 100000 in
theorem w_X8_findBest_210 (X : Cx g p s m args meth c cX8_findBest 6 RX8 none) {x3 : Int32} {st : Sg} {st9 : Sg} (rc24 : Int64 → Int32 → Sg → Option Sg) (hrc24 : ∀ (x1 : Int64) (x3 : Int32) (st : Sg) (ls : Array Slot) (H : Heap) (locs : List Loc), rc24 x1 x3 st = some st9 → Hp g nwM (ceM g) A s.heap st H locs → lv_has ls 6 [(0, .ref (g.2.1 0)), (1, .long x1), (3, .int x3)] → W p l e rm_X8_findBest s m args below meth c H locs 0 0 (MQ below (QV g nwM (ceM g) A st9) args s 0 0 A) (F0 m 24 ls [])) (h : X8_findBest_210 rc24 x3 st = some st9) (Y : Hp g nwM (ceM g) A s.heap st H locs)  (hl : lv_has ls 6 [(0, .ref (g.2.1 0)), (3, .int x3)]) : W p l e rm_X8_findBest s m args below meth c H locs 0 0 (MQ below (QV g nwM (ceM g) A st9) args s 0 0 A) (F0 m 210 ls []) := by
  have hx := X.1
  have hb := X.2.1
  unfold X8_findBest_210 at h
  refine lv_iconst (v := 0) hx hb dX8_findBest_210 (by decide) ?_
  refine lv_istore (lv' := [(4, .int 0), (0, .ref (g.2.1 0)), (3, .int x3)]) hx hb dX8_findBest_211 hl (by decide) rfl (fun ls hl => ?_)
  exact w_X8_findBest_213 X rc24 hrc24  FU 0 st _ _ _ h Y (lv_sub hl [1, 2, 0] rfl)
set_option maxHeartbeats 4000000 in
set_option maxRecDepth 100000 in
theorem w_X8_findBest_76b (X : Cx g p s m args meth c cX8_findBest 6 RX8 none) {x1 : Int64} {x3 : Int32} {x4 : Int32} {st : Sg} {st9 : Sg} (rc24 : Int64 → Int32 → Sg → Option Sg) (hrc24 : ∀ (x1 : Int64) (x3 : Int32) (st : Sg) (ls : Array Slot) (H : Heap) (locs : List Loc), rc24 x1 x3 st = some st9 → Hp g nwM (ceM g) A s.heap st H locs → lv_has ls 6 [(0, .ref (g.2.1 0)), (1, .long x1), (3, .int x3)] → W p l e rm_X8_findBest s m args below meth c H locs 0 0 (MQ below (QV g nwM (ceM g) A st9) args s 0 0 A) (F0 m 24 ls [])) (rc76 : Int32 → Sg → Option Sg) (hrc76 : ∀ (x4 : Int32) (st : Sg) (ls : Array Slot) (H : Heap) (locs : List Loc), rc76 x4 st = some st9 → Hp g nwM (ceM g) A s.heap st H locs → lv_has ls 6 [(0, .ref (g.2.1 0)), (1, .long x1), (3, .int x3), (4, .int x4)] → W p l e rm_X8_findBest s m args below meth c H locs 0 0 (MQ below (QV g nwM (ceM g) A st9) args s 0 0 A) (F0 m 76 ls [])) (h : X8_findBest_76b rc24 rc76 x1 x3 x4 st = some st9) (Y : Hp g nwM (ceM g) A s.heap st H locs)  (hl : lv_has ls 6 [(0, .ref (g.2.1 0)), (1, .long x1), (3, .int x3), (4, .int x4)]) : W p l e rm_X8_findBest s m args below meth c H locs 0 0 (MQ below (QV g nwM (ceM g) A st9) args s 0 0 A) (F0 m 76 ls []) := by
  have hx := X.1
  have hb := X.2.1
  unfold X8_findBest_76b at h
  refine lv_iload hx hb dX8_findBest_76 (lv_at hl 3 rfl) ?_
  refine lv_aload_n hx hb dX8_findBest_78 rfl (lv_at hl 0 rfl) ?_
  refine k_get (v := .int (st.1 0 4)) X Y fl_8_96 0 (Nat.le_of_ble_eq_true rfl) rfl rfl dX8_findBest_79 ?_
  refine lv_icmp_ge (tgt := 210) hx hb dX8_findBest_82 (by decide) (fun c1 => ?_) (fun c1 => ?_)
  · have h := ite_t h c1
    exact w_X8_findBest_210 X rc24 hrc24 h Y  (lv_sub hl [0, 2] rfl)
  · have h := ite_f h c1
    refine lv_aload_n hx hb dX8_findBest_85 rfl (lv_at hl 0 rfl) ?_
    refine lv_lload_n hx hb dX8_findBest_86 rfl (lv_at hl 1 rfl) ?_
    refine k_putJ X Y fl_8_120 0 (Nat.le_of_ble_eq_true rfl) rfl (Nat.le_of_ble_eq_true rfl) rfl dX8_findBest_87 (fun H locs Y => ?_)
    obtain ⟨st2, est2, h⟩ := nm_s h
    have Y : Hp g nwM (ceM g) A s.heap st2 H locs := by rw [est2]; exact Y
    refine lv_iconst (v := 0) hx hb dX8_findBest_90 (by decide) ?_
    refine lv_istore (lv' := [(5, .int 0), (0, .ref (g.2.1 0)), (1, .long x1), (3, .int x3), (4, .int x4)]) hx hb dX8_findBest_91 hl (by decide) rfl (fun ls hl => ?_)
    exact w_X8_findBest_93 X rc24 hrc24 rc76 hrc76  FU 0 st2 _ _ _ h Y (lv_sub hl [1, 2, 3, 4, 0] rfl)
theorem w_X8_findBest_76 (X : Cx g p s m args meth c cX8_findBest 6 RX8 none) {x1 : Int64} {x3 : Int32}  {st9 : Sg} (rc24 : Int64 → Int32 → Sg → Option Sg) (hrc24 : ∀ (x1 : Int64) (x3 : Int32) (st : Sg) (ls : Array Slot) (H : Heap) (locs : List Loc), rc24 x1 x3 st = some st9 → Hp g nwM (ceM g) A s.heap st H locs → lv_has ls 6 [(0, .ref (g.2.1 0)), (1, .long x1), (3, .int x3)] → W p l e rm_X8_findBest s m args below meth c H locs 0 0 (MQ below (QV g nwM (ceM g) A st9) args s 0 0 A) (F0 m 24 ls []))  : ∀ (k : Nat) (x4 : Int32) (st : Sg) (ls : Array Slot) (H : Heap) (locs : List Loc), X8_findBest_76 rc24 x1 x3 k x4 st = some st9 → Hp g nwM (ceM g) A s.heap st H locs → lv_has ls 6 [(0, .ref (g.2.1 0)), (1, .long x1), (3, .int x3), (4, .int x4)] → W p l e rm_X8_findBest s m args below meth c H locs 0 0 (MQ below (QV g nwM (ceM g) A st9) args s 0 0 A) (F0 m 76 ls []) := by
  intro k
  induction k with
  | zero =>
    intro x4 st ls H locs h
    exact none_s h
  | succ k ih =>
    intro x4 st ls H locs h Y hl
    exact w_X8_findBest_76b X rc24 hrc24 (X8_findBest_76 rc24 x1 x3 k) ih h Y  hl
set_option maxHeartbeats 4000000 in
set_option maxRecDepth 100000 in
theorem w_X8_findBest_73 (X : Cx g p s m args meth c cX8_findBest 6 RX8 none) {x1 : Int64} {x3 : Int32} {st : Sg} {st9 : Sg} (rc24 : Int64 → Int32 → Sg → Option Sg) (hrc24 : ∀ (x1 : Int64) (x3 : Int32) (st : Sg) (ls : Array Slot) (H : Heap) (locs : List Loc), rc24 x1 x3 st = some st9 → Hp g nwM (ceM g) A s.heap st H locs → lv_has ls 6 [(0, .ref (g.2.1 0)), (1, .long x1), (3, .int x3)] → W p l e rm_X8_findBest s m args below meth c H locs 0 0 (MQ below (QV g nwM (ceM g) A st9) args s 0 0 A) (F0 m 24 ls [])) (h : X8_findBest_73 rc24 x1 x3 st = some st9) (Y : Hp g nwM (ceM g) A s.heap st H locs)  (hl : lv_has ls 6 [(0, .ref (g.2.1 0)), (1, .long x1), (3, .int x3)]) : W p l e rm_X8_findBest s m args below meth c H locs 0 0 (MQ below (QV g nwM (ceM g) A st9) args s 0 0 A) (F0 m 73 ls []) := by
  have hx := X.1
  have hb := X.2.1
  unfold X8_findBest_73 at h
  refine lv_iconst (v := 0) hx hb dX8_findBest_73 (by decide) ?_
  refine lv_istore (lv' := [(4, .int 0), (0, .ref (g.2.1 0)), (1, .long x1), (3, .int x3)]) hx hb dX8_findBest_74 hl (by decide) rfl (fun ls hl => ?_)
  exact w_X8_findBest_76 X rc24 hrc24  FU 0 st _ _ _ h Y (lv_sub hl [1, 2, 3, 0] rfl)
set_option maxHeartbeats 4000000 in
set_option maxRecDepth 100000 in
theorem w_X8_findBest_31b (X : Cx g p s m args meth c cX8_findBest 6 RX8 none) {x1 : Int64} {x3 : Int32} {x4 : Int32} {st : Sg} {st9 : Sg} (rc24 : Int64 → Int32 → Sg → Option Sg) (hrc24 : ∀ (x1 : Int64) (x3 : Int32) (st : Sg) (ls : Array Slot) (H : Heap) (locs : List Loc), rc24 x1 x3 st = some st9 → Hp g nwM (ceM g) A s.heap st H locs → lv_has ls 6 [(0, .ref (g.2.1 0)), (1, .long x1), (3, .int x3)] → W p l e rm_X8_findBest s m args below meth c H locs 0 0 (MQ below (QV g nwM (ceM g) A st9) args s 0 0 A) (F0 m 24 ls [])) (rc31 : Int32 → Sg → Option Sg) (hrc31 : ∀ (x4 : Int32) (st : Sg) (ls : Array Slot) (H : Heap) (locs : List Loc), rc31 x4 st = some st9 → Hp g nwM (ceM g) A s.heap st H locs → lv_has ls 6 [(0, .ref (g.2.1 0)), (1, .long x1), (3, .int x3), (4, .int x4)] → W p l e rm_X8_findBest s m args below meth c H locs 0 0 (MQ below (QV g nwM (ceM g) A st9) args s 0 0 A) (F0 m 31 ls [])) (h : X8_findBest_31b rc24 rc31 x1 x3 x4 st = some st9) (Y : Hp g nwM (ceM g) A s.heap st H locs)  (hl : lv_has ls 6 [(0, .ref (g.2.1 0)), (1, .long x1), (3, .int x3), (4, .int x4)]) : W p l e rm_X8_findBest s m args below meth c H locs 0 0 (MQ below (QV g nwM (ceM g) A st9) args s 0 0 A) (F0 m 31 ls []) := by
  have hx := X.1
  have hb := X.2.1
  unfold X8_findBest_31b at h
  refine lv_iload hx hb dX8_findBest_31 (lv_at hl 3 rfl) ?_
  refine lv_bipush (v := 12) hx hb dX8_findBest_33 (by decide) ?_
  refine lv_icmp_gt (tgt := 73) hx hb dX8_findBest_35 (by decide) (fun c1 => ?_) (fun c1 => ?_)
  · have h := ite_t h c1
    exact w_X8_findBest_73 X rc24 hrc24 h Y  (lv_sub hl [0, 1, 2] rfl)
  · have h := ite_f h c1
    refine lv_aload_n hx hb dX8_findBest_38 rfl (lv_at hl 0 rfl) ?_
    refine k_get (v := .ref (g.2.1 10)) X Y fl_8_38 0 (Nat.le_of_ble_eq_true rfl) rfl rfl dX8_findBest_39 ?_
    refine lv_iload hx hb dX8_findBest_42 (lv_at hl 3 rfl) ?_
    refine lv_aload_n hx hb dX8_findBest_44 rfl (lv_at hl 0 rfl) ?_
    refine k_get (v := .ref (g.2.1 7)) X Y fl_8_28 0 (Nat.le_of_ble_eq_true rfl) rfl rfl dX8_findBest_45 ?_
    refine lv_iload hx hb dX8_findBest_48 (lv_at hl 3 rfl) ?_
    obtain ⟨i2, h⟩ := cix_s h
    refine k_lald X Y 7 (Nat.le_of_ble_eq_true rfl) (fun _ _ => rfl) i2 dX8_findBest_50 ?_
    obtain ⟨i3, h⟩ := cix_s h
    refine k_last X Y 10 (Nat.le_of_ble_eq_true rfl) (fun _ _ => rfl) i3 dX8_findBest_51 (fun H locs Y => ?_)
    obtain ⟨st4, est4, h⟩ := nm_s h
    have Y : Hp g nwM (ceM g) A s.heap st4 H locs := by rw [est4]; exact Y
    refine lv_aload_n hx hb dX8_findBest_52 rfl (lv_at hl 0 rfl) ?_
    refine k_get (v := .ref (g.2.1 8)) X Y fl_8_32 0 (Nat.le_of_ble_eq_true rfl) rfl rfl dX8_findBest_53 ?_
    refine lv_bipush (v := 13) hx hb dX8_findBest_56 (by decide) ?_
    refine lv_iload_n hx hb dX8_findBest_58 rfl (lv_at hl 2 rfl) ?_
    refine lv_imul hx hb dX8_findBest_59 ?_
    refine lv_iload hx hb dX8_findBest_60 (lv_at hl 3 rfl) ?_
    refine lv_iadd hx hb dX8_findBest_62 ?_
    refine k_ldc2 X lg_8_112 dX8_findBest_63 ?_
    obtain ⟨i5, h⟩ := cix_s h
    refine k_last X Y 8 (Nat.le_of_ble_eq_true rfl) (fun _ _ => rfl) i5 dX8_findBest_66 (fun H locs Y => ?_)
    obtain ⟨st6, est6, h⟩ := nm_s h
    have Y : Hp g nwM (ceM g) A s.heap st6 H locs := by rw [est6]; exact Y
    obtain ⟨v7, ev7, h⟩ := nm_s h
    refine lv_iinc (v := v7) (lv' := [(4, .int v7), (0, .ref (g.2.1 0)), (1, .long x1), (3, .int x3)]) hx hb dX8_findBest_67 hl (k := 3) rfl (by rw [ev7]; rfl) (by decide) rfl (fun ls hl => ?_)
    refine lv_goto (tgt := 31) hx hb dX8_findBest_70 (by decide) ?_
    exact hrc31 v7 st6 _ _ _ h Y (lv_sub hl [1, 2, 3, 0] rfl)
theorem w_X8_findBest_31 (X : Cx g p s m args meth c cX8_findBest 6 RX8 none) {x1 : Int64} {x3 : Int32}  {st9 : Sg} (rc24 : Int64 → Int32 → Sg → Option Sg) (hrc24 : ∀ (x1 : Int64) (x3 : Int32) (st : Sg) (ls : Array Slot) (H : Heap) (locs : List Loc), rc24 x1 x3 st = some st9 → Hp g nwM (ceM g) A s.heap st H locs → lv_has ls 6 [(0, .ref (g.2.1 0)), (1, .long x1), (3, .int x3)] → W p l e rm_X8_findBest s m args below meth c H locs 0 0 (MQ below (QV g nwM (ceM g) A st9) args s 0 0 A) (F0 m 24 ls []))  : ∀ (k : Nat) (x4 : Int32) (st : Sg) (ls : Array Slot) (H : Heap) (locs : List Loc), X8_findBest_31 rc24 x1 x3 k x4 st = some st9 → Hp g nwM (ceM g) A s.heap st H locs → lv_has ls 6 [(0, .ref (g.2.1 0)), (1, .long x1), (3, .int x3), (4, .int x4)] → W p l e rm_X8_findBest s m args below meth c H locs 0 0 (MQ below (QV g nwM (ceM g) A st9) args s 0 0 A) (F0 m 31 ls []) := by
  intro k
  induction k with
  | zero =>
    intro x4 st ls H locs h
    exact none_s h
  | succ k ih =>
    intro x4 st ls H locs h Y hl
    exact w_X8_findBest_31b X rc24 hrc24 (X8_findBest_31 rc24 x1 x3 k) ih h Y  hl
set_option maxHeartbeats 4000000 in
set_option maxRecDepth 100000 in
theorem w_X8_findBest_256 (X : Cx g p s m args meth c cX8_findBest 6 RX8 none)  {st : Sg} {st9 : Sg}  (h : X8_findBest_256 st = some st9) (Y : Hp g nwM (ceM g) A s.heap st H locs)  (hl : lv_has ls 6 []) : W p l e rm_X8_findBest s m args below meth c H locs 0 0 (MQ below (QV g nwM (ceM g) A st9) args s 0 0 A) (F0 m 256 ls []) := by
  have hx := X.1
  have hb := X.2.1
  unfold X8_findBest_256 at h
  exact k_vretW X Y h dX8_findBest_256
set_option maxHeartbeats 4000000 in
set_option maxRecDepth 100000 in
theorem w_X8_findBest_24b (X : Cx g p s m args meth c cX8_findBest 6 RX8 none) {x1 : Int64} {x3 : Int32} {st : Sg} {st9 : Sg} (rc24 : Int64 → Int32 → Sg → Option Sg) (hrc24 : ∀ (x1 : Int64) (x3 : Int32) (st : Sg) (ls : Array Slot) (H : Heap) (locs : List Loc), rc24 x1 x3 st = some st9 → Hp g nwM (ceM g) A s.heap st H locs → lv_has ls 6 [(0, .ref (g.2.1 0)), (1, .long x1), (3, .int x3)] → W p l e rm_X8_findBest s m args below meth c H locs 0 0 (MQ below (QV g nwM (ceM g) A st9) args s 0 0 A) (F0 m 24 ls [])) (h : X8_findBest_24b rc24 x1 x3 st = some st9) (Y : Hp g nwM (ceM g) A s.heap st H locs)  (hl : lv_has ls 6 [(0, .ref (g.2.1 0)), (1, .long x1), (3, .int x3)]) : W p l e rm_X8_findBest s m args below meth c H locs 0 0 (MQ below (QV g nwM (ceM g) A st9) args s 0 0 A) (F0 m 24 ls []) := by
  have hx := X.1
  have hb := X.2.1
  unfold X8_findBest_24b at h
  refine lv_iload_n hx hb dX8_findBest_24 rfl (lv_at hl 2 rfl) ?_
  refine lv_if_lt (tgt := 256) hx hb dX8_findBest_25 (by decide) (fun c1 => ?_) (fun c1 => ?_)
  · have h := ite_t h c1
    exact w_X8_findBest_256 X  h Y  (lv_sub hl [] rfl)
  · have h := ite_f h c1
    refine lv_iconst (v := 0) hx hb dX8_findBest_28 (by decide) ?_
    refine lv_istore (lv' := [(4, .int 0), (0, .ref (g.2.1 0)), (1, .long x1), (3, .int x3)]) hx hb dX8_findBest_29 hl (by decide) rfl (fun ls hl => ?_)
    exact w_X8_findBest_31 X rc24 hrc24  FU 0 st _ _ _ h Y (lv_sub hl [1, 2, 3, 0] rfl)
theorem w_X8_findBest_24 (X : Cx g p s m args meth c cX8_findBest 6 RX8 none)   {st9 : Sg}   : ∀ (k : Nat) (x1 : Int64) (x3 : Int32) (st : Sg) (ls : Array Slot) (H : Heap) (locs : List Loc), X8_findBest_24 k x1 x3 st = some st9 → Hp g nwM (ceM g) A s.heap st H locs → lv_has ls 6 [(0, .ref (g.2.1 0)), (1, .long x1), (3, .int x3)] → W p l e rm_X8_findBest s m args below meth c H locs 0 0 (MQ below (QV g nwM (ceM g) A st9) args s 0 0 A) (F0 m 24 ls []) := by
  intro k
  induction k with
  | zero =>
    intro x1 x3 st ls H locs h
    exact none_s h
  | succ k ih =>
    intro x1 x3 st ls H locs h Y hl
    exact w_X8_findBest_24b X  (X8_findBest_24 k) ih h Y  hl
set_option maxHeartbeats 4000000 in
set_option maxRecDepth 100000 in
theorem w_X8_findBest (X : Cx g p s m args meth c cX8_findBest 6 RX8 none)  {st : Sg} {st9 : Sg}  (h : X8_findBest st = some st9) (Y : Hp g nwM (ceM g) A s.heap st H locs)  (hl : lv_has ls 6 [(0, .ref (g.2.1 0))]) : W p l e rm_X8_findBest s m args below meth c H locs 0 0 (MQ below (QV g nwM (ceM g) A st9) args s 0 0 A) (F0 m 0 ls []) := by
  have hx := X.1
  have hb := X.2.1
  unfold X8_findBest at h
  refine lv_aload_n hx hb dX8_findBest_0 rfl (lv_at hl 0 rfl) ?_
  obtain ⟨st2, hc1, h⟩ := bnd1_s h
  refine k_cV Y (k_runV (As := []) (rest := []) (o := 0) X Y cl_8_128 (c_X8_beginEnd l hc1 _) ⟨rfl, rfl, Nat.le_of_ble_eq_true rfl, Nat.le_of_ble_eq_true rfl⟩ (Nat.le_of_ble_eq_true rfl) rfl rfl hl.1 rfl (Nat.le_of_ble_eq_true rfl) dX8_findBest_1 ⟨Nat.zero_le _, Nat.zero_le _⟩) (fun H locs Y => ?_)
  refine lv_aload_n hx hb dX8_findBest_4 rfl (lv_at hl 0 rfl) ?_
  refine k_get (v := .long (st2.2 0 12)) X Y fl_8_120 0 (Nat.le_of_ble_eq_true rfl) rfl rfl dX8_findBest_5 ?_
  obtain ⟨v3, ev3, h⟩ := nm_s h
  refine k_nmJ ev3 ?_
  refine lv_lstore_n (lv' := [(1, .long v3), (0, .ref (g.2.1 0))]) hx hb dX8_findBest_8 rfl hl (by decide) rfl (fun ls hl => ?_)
  refine lv_aload_n hx hb dX8_findBest_9 rfl (lv_at hl 1 rfl) ?_
  refine lv_aload_n hx hb dX8_findBest_10 rfl (lv_at hl 1 rfl) ?_
  refine k_get (v := .int (st2.1 0 1)) X Y fl_8_78 0 (Nat.le_of_ble_eq_true rfl) rfl rfl dX8_findBest_11 ?_
  obtain ⟨st5, hc4, h⟩ := bnd1_s h
  refine k_cV Y (k_runV (As := [.int (st2.1 0 1)]) (rest := []) (o := 0) X Y cl_8_131 (c_X8_keepRow l hc4 _) ⟨rfl, rfl, Nat.le_of_ble_eq_true rfl, Nat.le_of_ble_eq_true rfl⟩ (Nat.le_of_ble_eq_true rfl) rfl rfl hl.1 rfl (Nat.le_of_ble_eq_true rfl) dX8_findBest_14 ⟨Nat.zero_le _, Nat.zero_le _⟩) (fun H locs Y => ?_)
  refine lv_aload_n hx hb dX8_findBest_17 rfl (lv_at hl 1 rfl) ?_
  refine k_get (v := .int (st5.1 0 1)) X Y fl_8_78 0 (Nat.le_of_ble_eq_true rfl) rfl rfl dX8_findBest_18 ?_
  refine lv_iconst (v := 1) hx hb dX8_findBest_21 (by decide) ?_
  refine lv_isub hx hb dX8_findBest_22 ?_
  obtain ⟨v6, ev6, h⟩ := nm_s h
  refine k_nmI ev6 ?_
  refine lv_istore_n (lv' := [(3, .int v6), (1, .long v3), (0, .ref (g.2.1 0))]) hx hb dX8_findBest_23 rfl hl (by decide) rfl (fun ls hl => ?_)
  exact w_X8_findBest_24 X   FU v3 v6 st5 _ _ _ h Y (lv_sub hl [2, 1, 0] rfl)
theorem c_X8_findBest (l : Launch) {g : Gx}  {st : Sg} {st9 : Sg} (h : X8_findBest st = some st9) : MetV l yX8_findBest cX8_findBest 6 none rm_X8_findBest g nwM (ceM g) [.ref (g.2.1 0)] st st9 :=
  met_of (Qc := fun A => QV g nwM (ceM g) A st9) (by decide) (Nat.le_of_ble_eq_true rfl) (fun p e s m below meth c A ls X Y hl => w_X8_findBest X h Y hl)
def X8_beginPrice    (st : Sg) : Option (Int32 × Sg) :=
  bnd1 (X8_findBest st) fun st2 =>
  cix (st2.1 0 0) 78 <|
  some (st2.1 9 (st2.1 0 0).toNatClampNeg, st2)
abbrev rm_X8_beginPrice : Room := { frames := 3, cells := 0, slots := 0, locals := 72 }
set_option maxHeartbeats 4000000 in
set_option maxRecDepth 100000 in
theorem w_X8_beginPrice (X : Cx g p s m args meth c cX8_beginPrice 1 RX8 (some .int))  {st : Sg} {r9 : Int32} {st9 : Sg}  (h : X8_beginPrice st = some (r9, st9)) (Y : Hp g nwM (ceM g) A s.heap st H locs)  (hl : lv_has ls 1 [(0, .ref (g.2.1 0))]) : W p l e rm_X8_beginPrice s m args below meth c H locs 0 0 (MQ below (QI g nwM (ceM g) A r9 st9) args s 0 0 A) (F0 m 0 ls []) := by
  have hx := X.1
  have hb := X.2.1
  unfold X8_beginPrice at h
  refine lv_aload_n hx hb dX8_beginPrice_0 rfl (lv_at hl 0 rfl) ?_
  obtain ⟨st2, hc1, h⟩ := bnd1_s h
  refine k_cV Y (k_runV (As := []) (rest := []) (o := 0) X Y cl_8_158 (c_X8_findBest l hc1 _) ⟨rfl, rfl, Nat.le_of_ble_eq_true rfl, Nat.le_of_ble_eq_true rfl⟩ (Nat.le_of_ble_eq_true rfl) rfl rfl hl.1 rfl (Nat.le_of_ble_eq_true rfl) dX8_beginPrice_1 ⟨Nat.zero_le _, Nat.zero_le _⟩) (fun H locs Y => ?_)
  refine lv_aload_n hx hb dX8_beginPrice_4 rfl (lv_at hl 0 rfl) ?_
  refine k_get (v := .ref (g.2.1 9)) X Y fl_8_35 0 (Nat.le_of_ble_eq_true rfl) rfl rfl dX8_beginPrice_5 ?_
  refine lv_aload_n hx hb dX8_beginPrice_8 rfl (lv_at hl 0 rfl) ?_
  refine k_get (v := .int (st2.1 0 0)) X Y fl_8_75 0 (Nat.le_of_ble_eq_true rfl) rfl rfl dX8_beginPrice_9 ?_
  obtain ⟨i3, h⟩ := cix_s h
  refine k_iald X Y 9 (Nat.le_of_ble_eq_true rfl) (fun _ _ => rfl) i3 dX8_beginPrice_12 ?_
  exact k_iretW X Y h dX8_beginPrice_13
theorem c_X8_beginPrice (l : Launch) {g : Gx}  {st : Sg} {r9 : Int32} {st9 : Sg} (h : X8_beginPrice st = some (r9, st9)) : MetI l yX8_beginPrice cX8_beginPrice 1 (some .int) rm_X8_beginPrice g nwM (ceM g) [.ref (g.2.1 0)] st r9 st9 :=
  met_of (Qc := fun A => QI g nwM (ceM g) A r9 st9) (by decide) (Nat.le_of_ble_eq_true rfl) (fun p e s m below meth c A ls X Y hl => w_X8_beginPrice X h Y hl)
def X8_best_30    (st : Sg) : Option (Int32 × Sg) :=
  some ((-2), st)
def X8_best   (x1 : Int32) (x2 : Int32) (st : Sg) : Option (Int32 × Sg) :=
  bnd1 (X8_in (x1.toInt64) 0 (((st.1 0 1) - 1).toInt64)) fun v2 =>
  if v2 = (0 : Int32) then
    X8_best_30 st
  else
    bnd1 (X8_in (x2.toInt64) 1 ((st.1 0 0).toInt64)) fun v5 =>
    if v5 = (0 : Int32) then
      X8_best_30 st
    else
      if (st.1 0 4) = (0 : Int32) then
        some ((-3), st)
      else
        bnd1 (X8_findBest st) fun st9 =>
        cix ((13 * x1) + x2) 78 <|
        some (st9.1 9 ((13 * x1) + x2).toNatClampNeg, st9)
abbrev rm_X8_best : Room := { frames := 3, cells := 0, slots := 0, locals := 72 }
set_option maxHeartbeats 4000000 in
set_option maxRecDepth 100000 in
theorem w_X8_best_30 (X : Cx g p s m args meth c cX8_best 3 RX8 (some .int))  {st : Sg} {r9 : Int32} {st9 : Sg}  (h : X8_best_30 st = some (r9, st9)) (Y : Hp g nwM (ceM g) A s.heap st H locs)  (hl : lv_has ls 3 []) : W p l e rm_X8_best s m args below meth c H locs 0 0 (MQ below (QI g nwM (ceM g) A r9 st9) args s 0 0 A) (F0 m 30 ls []) := by
  have hx := X.1
  have hb := X.2.1
  unfold X8_best_30 at h
  refine lv_bipush (v := (-2)) hx hb dX8_best_30 (by decide) ?_
  exact k_iretW X Y h dX8_best_32
set_option maxHeartbeats 4000000 in
set_option maxRecDepth 100000 in
theorem w_X8_best (X : Cx g p s m args meth c cX8_best 3 RX8 (some .int)) {x1 : Int32} {x2 : Int32} {st : Sg} {r9 : Int32} {st9 : Sg}  (h : X8_best x1 x2 st = some (r9, st9)) (Y : Hp g nwM (ceM g) A s.heap st H locs)  (hl : lv_has ls 3 [(0, .ref (g.2.1 0)), (1, .int x1), (2, .int x2)]) : W p l e rm_X8_best s m args below meth c H locs 0 0 (MQ below (QI g nwM (ceM g) A r9 st9) args s 0 0 A) (F0 m 0 ls []) := by
  have hx := X.1
  have hb := X.2.1
  unfold X8_best at h
  refine lv_iload_n hx hb dX8_best_0 rfl (lv_at hl 1 rfl) ?_
  refine lv_i2l hx hb dX8_best_1 rfl ?_
  refine lv_lconst (v := 0) hx hb dX8_best_2 (by decide) ?_
  refine lv_aload_n hx hb dX8_best_3 rfl (lv_at hl 0 rfl) ?_
  refine k_get (v := .int (st.1 0 1)) X Y fl_8_78 0 (Nat.le_of_ble_eq_true rfl) rfl rfl dX8_best_4 ?_
  refine lv_iconst (v := 1) hx hb dX8_best_7 (by decide) ?_
  refine lv_isub hx hb dX8_best_8 ?_
  refine lv_i2l hx hb dX8_best_9 rfl ?_
  obtain ⟨v2, hc1, h⟩ := bnd1_s h
  refine k_cI Y (k_runS (As := [.long (x1.toInt64), .long 0, .long (((st.1 0 1) - 1).toInt64)]) (rest := []) X Y cl_8_83 (c_X8_in l hc1 _) ⟨rfl, rfl, Nat.le_of_ble_eq_true rfl, Nat.le_of_ble_eq_true rfl⟩ rfl hl.1 rfl (Nat.le_of_ble_eq_true rfl) dX8_best_10 ⟨Nat.zero_le _, Nat.zero_le _⟩) (fun H locs Y => ?_)
  refine lv_if_eq (tgt := 30) hx hb dX8_best_13 (by decide) (fun c3 => ?_) (fun c3 => ?_)
  · have h := ite_t h c3
    exact w_X8_best_30 X  h Y  (lv_sub hl [] rfl)
  · have h := ite_f h c3
    refine lv_iload_n hx hb dX8_best_16 rfl (lv_at hl 2 rfl) ?_
    refine lv_i2l hx hb dX8_best_17 rfl ?_
    refine lv_lconst (v := 1) hx hb dX8_best_18 (by decide) ?_
    refine lv_aload_n hx hb dX8_best_19 rfl (lv_at hl 0 rfl) ?_
    refine k_get (v := .int (st.1 0 0)) X Y fl_8_75 0 (Nat.le_of_ble_eq_true rfl) rfl rfl dX8_best_20 ?_
    refine lv_i2l hx hb dX8_best_23 rfl ?_
    obtain ⟨v5, hc4, h⟩ := bnd1_s h
    refine k_cI Y (k_runS (As := [.long (x2.toInt64), .long 1, .long ((st.1 0 0).toInt64)]) (rest := []) X Y cl_8_83 (c_X8_in l hc4 _) ⟨rfl, rfl, Nat.le_of_ble_eq_true rfl, Nat.le_of_ble_eq_true rfl⟩ rfl hl.1 rfl (Nat.le_of_ble_eq_true rfl) dX8_best_24 ⟨Nat.zero_le _, Nat.zero_le _⟩) (fun H locs Y => ?_)
    refine lv_if_ne (tgt := 33) hx hb dX8_best_27 (by decide) (fun c6 => ?_) (fun c6 => ?_)
    · have h := ite_f h c6
      refine lv_aload_n hx hb dX8_best_33 rfl (lv_at hl 0 rfl) ?_
      refine k_get (v := .int (st.1 0 4)) X Y fl_8_96 0 (Nat.le_of_ble_eq_true rfl) rfl rfl dX8_best_34 ?_
      refine lv_if_ne (tgt := 43) hx hb dX8_best_37 (by decide) (fun c7 => ?_) (fun c7 => ?_)
      · have h := ite_f h c7
        refine lv_aload_n hx hb dX8_best_43 rfl (lv_at hl 0 rfl) ?_
        obtain ⟨st9, hc8, h⟩ := bnd1_s h
        refine k_cV Y (k_runV (As := []) (rest := []) (o := 0) X Y cl_8_158 (c_X8_findBest l hc8 _) ⟨rfl, rfl, Nat.le_of_ble_eq_true rfl, Nat.le_of_ble_eq_true rfl⟩ (Nat.le_of_ble_eq_true rfl) rfl rfl hl.1 rfl (Nat.le_of_ble_eq_true rfl) dX8_best_44 ⟨Nat.zero_le _, Nat.zero_le _⟩) (fun H locs Y => ?_)
        refine lv_aload_n hx hb dX8_best_47 rfl (lv_at hl 0 rfl) ?_
        refine k_get (v := .ref (g.2.1 9)) X Y fl_8_35 0 (Nat.le_of_ble_eq_true rfl) rfl rfl dX8_best_48 ?_
        refine lv_bipush (v := 13) hx hb dX8_best_51 (by decide) ?_
        refine lv_iload_n hx hb dX8_best_53 rfl (lv_at hl 1 rfl) ?_
        refine lv_imul hx hb dX8_best_54 ?_
        refine lv_iload_n hx hb dX8_best_55 rfl (lv_at hl 2 rfl) ?_
        refine lv_iadd hx hb dX8_best_56 ?_
        obtain ⟨i10, h⟩ := cix_s h
        refine k_iald X Y 9 (Nat.le_of_ble_eq_true rfl) (fun _ _ => rfl) i10 dX8_best_57 ?_
        exact k_iretW X Y h dX8_best_58
      · have h := ite_t h c7
        refine lv_bipush (v := (-3)) hx hb dX8_best_40 (by decide) ?_
        exact k_iretW X Y h dX8_best_42
    · have h := ite_t h c6
      exact w_X8_best_30 X  h Y  (lv_sub hl [] rfl)
theorem c_X8_best (l : Launch) {g : Gx} {x1 : Int32} {x2 : Int32} {st : Sg} {r9 : Int32} {st9 : Sg} (h : X8_best x1 x2 st = some (r9, st9)) : MetI l yX8_best cX8_best 3 (some .int) rm_X8_best g nwM (ceM g) [.ref (g.2.1 0), .int x1, .int x2] st r9 st9 :=
  met_of (Qc := fun A => QI g nwM (ceM g) A r9 st9) (by decide) (Nat.le_of_ble_eq_true rfl) (fun p e s m below meth c A ls X Y hl => w_X8_best X h Y hl)
end LIFT
end
