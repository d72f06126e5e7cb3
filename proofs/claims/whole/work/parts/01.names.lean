-- ===== PART A: goes FIRST, ahead of the names: the tables' words, and 'selects' of the private methods out of them =====
/-- a private method of a class that the tables say can be made, by its rows of tables_1 -/
def lw_okq (q : MethodName × Nat) : Prop := (q.1.cls ≠ "java/lang/invoke/MethodHandle" ∧ q.1.cls ≠ "java/lang/invoke/VarHandle") ∧ Cond.instantiable q.1.cls q.2 ∈ tables_1 ∧ Cond.privateMethod q.1 ∈ tables_1 ∧ Cond.instanceMethod q.1 ∈ tables_1
theorem lw_p0 : lw_okq (⟨"WaterConsent", "sheetAt", "(I)LWaterConsent$Sheet;"⟩, 7) := ⟨⟨by decide +kernel, by decide +kernel⟩, List.mem_of_getElem? (i := 13) (by decide +kernel), List.mem_of_getElem? (i := 164) (by decide +kernel), List.mem_of_getElem? (i := 165) (by decide +kernel)⟩
theorem lw_p1 : lw_okq (⟨"WaterConsent", "faulted", "(I)I"⟩, 7) := ⟨⟨by decide +kernel, by decide +kernel⟩, List.mem_of_getElem? (i := 13) (by decide +kernel), List.mem_of_getElem? (i := 179) (by decide +kernel), List.mem_of_getElem? (i := 180) (by decide +kernel)⟩
theorem lw_p2 : lw_okq (⟨"WaterConsent", "areActs", "(LWaterConsent$Sheet;II)Z"⟩, 7) := ⟨⟨by decide +kernel, by decide +kernel⟩, List.mem_of_getElem? (i := 13) (by decide +kernel), List.mem_of_getElem? (i := 301) (by decide +kernel), List.mem_of_getElem? (i := 302) (by decide +kernel)⟩
theorem lw_p3 : lw_okq (⟨"WaterConsent", "actOnTrial", "(LWaterConsent$Sheet;II)I"⟩, 7) := ⟨⟨by decide +kernel, by decide +kernel⟩, List.mem_of_getElem? (i := 13) (by decide +kernel), List.mem_of_getElem? (i := 311) (by decide +kernel), List.mem_of_getElem? (i := 312) (by decide +kernel)⟩
theorem lw_p4 : lw_okq (⟨"WaterConsent", "behindActs", "(LWaterConsent$Sheet;III)I"⟩, 7) := ⟨⟨by decide +kernel, by decide +kernel⟩, List.mem_of_getElem? (i := 13) (by decide +kernel), List.mem_of_getElem? (i := 315) (by decide +kernel), List.mem_of_getElem? (i := 316) (by decide +kernel)⟩
theorem lw_p5 : lw_okq (⟨"WaterConsent", "openingsAmong", "(LWaterConsent$Sheet;II)I"⟩, 7) := ⟨⟨by decide +kernel, by decide +kernel⟩, List.mem_of_getElem? (i := 13) (by decide +kernel), List.mem_of_getElem? (i := 323) (by decide +kernel), List.mem_of_getElem? (i := 324) (by decide +kernel)⟩
theorem lw_p6 : lw_okq (⟨"WaterConsent$Search", "keyOf", "(I)J"⟩, 12) := ⟨⟨by decide +kernel, by decide +kernel⟩, List.mem_of_getElem? (i := 72) (by decide +kernel), List.mem_of_getElem? (i := 348) (by decide +kernel), List.mem_of_getElem? (i := 349) (by decide +kernel)⟩
theorem lw_p7 : lw_okq (⟨"WaterConsent$Search", "find", "(I)V"⟩, 12) := ⟨⟨by decide +kernel, by decide +kernel⟩, List.mem_of_getElem? (i := 72) (by decide +kernel), List.mem_of_getElem? (i := 356) (by decide +kernel), List.mem_of_getElem? (i := 357) (by decide +kernel)⟩
theorem lw_p8 : lw_okq (⟨"WaterConsent$Search", "forgetStates", "()V"⟩, 12) := ⟨⟨by decide +kernel, by decide +kernel⟩, List.mem_of_getElem? (i := 72) (by decide +kernel), List.mem_of_getElem? (i := 360) (by decide +kernel), List.mem_of_getElem? (i := 361) (by decide +kernel)⟩
theorem lw_p9 : lw_okq (⟨"WaterConsent$Search", "isState", "(I)Z"⟩, 12) := ⟨⟨by decide +kernel, by decide +kernel⟩, List.mem_of_getElem? (i := 72) (by decide +kernel), List.mem_of_getElem? (i := 364) (by decide +kernel), List.mem_of_getElem? (i := 365) (by decide +kernel)⟩
theorem lw_p10 : lw_okq (⟨"WaterConsent$Search", "isGoal", "(I)Z"⟩, 12) := ⟨⟨by decide +kernel, by decide +kernel⟩, List.mem_of_getElem? (i := 72) (by decide +kernel), List.mem_of_getElem? (i := 368) (by decide +kernel), List.mem_of_getElem? (i := 369) (by decide +kernel)⟩
theorem lw_p11 : lw_okq (⟨"WaterConsent$Search", "comeTo", "(III)Z"⟩, 12) := ⟨⟨by decide +kernel, by decide +kernel⟩, List.mem_of_getElem? (i := 72) (by decide +kernel), List.mem_of_getElem? (i := 375) (by decide +kernel), List.mem_of_getElem? (i := 376) (by decide +kernel)⟩
theorem lw_p12 : lw_okq (⟨"WaterConsent$Search", "goOnFrom", "(I)I"⟩, 12) := ⟨⟨by decide +kernel, by decide +kernel⟩, List.mem_of_getElem? (i := 72) (by decide +kernel), List.mem_of_getElem? (i := 379) (by decide +kernel), List.mem_of_getElem? (i := 380) (by decide +kernel)⟩
theorem lw_p13 : lw_okq (⟨"WaterConsent$Search", "behindNight", "(I)I"⟩, 12) := ⟨⟨by decide +kernel, by decide +kernel⟩, List.mem_of_getElem? (i := 72) (by decide +kernel), List.mem_of_getElem? (i := 383) (by decide +kernel), List.mem_of_getElem? (i := 384) (by decide +kernel)⟩
theorem lw_p14 : lw_okq (⟨"WaterConsent$Search", "behindOpening", "(II)I"⟩, 12) := ⟨⟨by decide +kernel, by decide +kernel⟩, List.mem_of_getElem? (i := 72) (by decide +kernel), List.mem_of_getElem? (i := 388) (by decide +kernel), List.mem_of_getElem? (i := 389) (by decide +kernel)⟩
theorem lw_p15 : lw_okq (⟨"WaterConsent$Search", "keepRowTo", "(I)V"⟩, 12) := ⟨⟨by decide +kernel, by decide +kernel⟩, List.mem_of_getElem? (i := 72) (by decide +kernel), List.mem_of_getElem? (i := 392) (by decide +kernel), List.mem_of_getElem? (i := 393) (by decide +kernel)⟩
def lw_privs_1 : List (MethodName × Nat) := [(⟨"WaterConsent", "sheetAt", "(I)LWaterConsent$Sheet;"⟩, 7), (⟨"WaterConsent", "faulted", "(I)I"⟩, 7), (⟨"WaterConsent", "areActs", "(LWaterConsent$Sheet;II)Z"⟩, 7), (⟨"WaterConsent", "actOnTrial", "(LWaterConsent$Sheet;II)I"⟩, 7), (⟨"WaterConsent", "behindActs", "(LWaterConsent$Sheet;III)I"⟩, 7), (⟨"WaterConsent", "openingsAmong", "(LWaterConsent$Sheet;II)I"⟩, 7), (⟨"WaterConsent$Search", "keyOf", "(I)J"⟩, 12), (⟨"WaterConsent$Search", "find", "(I)V"⟩, 12), (⟨"WaterConsent$Search", "forgetStates", "()V"⟩, 12), (⟨"WaterConsent$Search", "isState", "(I)Z"⟩, 12), (⟨"WaterConsent$Search", "isGoal", "(I)Z"⟩, 12), (⟨"WaterConsent$Search", "comeTo", "(III)Z"⟩, 12), (⟨"WaterConsent$Search", "goOnFrom", "(I)I"⟩, 12), (⟨"WaterConsent$Search", "behindNight", "(I)I"⟩, 12), (⟨"WaterConsent$Search", "behindOpening", "(II)I"⟩, 12), (⟨"WaterConsent$Search", "keepRowTo", "(I)V"⟩, 12)]
theorem lw_r1 : ∀ q ∈ lw_privs_1, lw_okq q := List.forall_mem_cons.mpr ⟨lw_p0, List.forall_mem_cons.mpr ⟨lw_p1, List.forall_mem_cons.mpr ⟨lw_p2, List.forall_mem_cons.mpr ⟨lw_p3, List.forall_mem_cons.mpr ⟨lw_p4, List.forall_mem_cons.mpr ⟨lw_p5, List.forall_mem_cons.mpr ⟨lw_p6, List.forall_mem_cons.mpr ⟨lw_p7, List.forall_mem_cons.mpr ⟨lw_p8, List.forall_mem_cons.mpr ⟨lw_p9, List.forall_mem_cons.mpr ⟨lw_p10, List.forall_mem_cons.mpr ⟨lw_p11, List.forall_mem_cons.mpr ⟨lw_p12, List.forall_mem_cons.mpr ⟨lw_p13, List.forall_mem_cons.mpr ⟨lw_p14, List.forall_mem_cons.mpr ⟨lw_p15, fun _ h => absurd h List.not_mem_nil⟩⟩⟩⟩⟩⟩⟩⟩⟩⟩⟩⟩⟩⟩⟩⟩
theorem lw_p16 : lw_okq (⟨"WaterConsent", "numbersThatFit", "(III)I"⟩, 7) := ⟨⟨by decide +kernel, by decide +kernel⟩, List.mem_of_getElem? (i := 13) (by decide +kernel), List.mem_of_getElem? (i := 424) (by decide +kernel), List.mem_of_getElem? (i := 425) (by decide +kernel)⟩
theorem lw_p17 : lw_okq (⟨"WaterConsent", "levelBehindRain", "(I)I"⟩, 7) := ⟨⟨by decide +kernel, by decide +kernel⟩, List.mem_of_getElem? (i := 13) (by decide +kernel), List.mem_of_getElem? (i := 453) (by decide +kernel), List.mem_of_getElem? (i := 454) (by decide +kernel)⟩
theorem lw_p18 : lw_okq (⟨"WaterConsent$Sheet", "cutToLane", "(I)I"⟩, 4) := ⟨⟨by decide +kernel, by decide +kernel⟩, List.mem_of_getElem? (i := 116) (by decide +kernel), List.mem_of_getElem? (i := 484) (by decide +kernel), List.mem_of_getElem? (i := 485) (by decide +kernel)⟩
theorem lw_p19 : lw_okq (⟨"WaterConsent", "tellingOfSulky", "(I)I"⟩, 7) := ⟨⟨by decide +kernel, by decide +kernel⟩, List.mem_of_getElem? (i := 13) (by decide +kernel), List.mem_of_getElem? (i := 504) (by decide +kernel), List.mem_of_getElem? (i := 505) (by decide +kernel)⟩
theorem lw_p20 : lw_okq (⟨"WaterConsent", "leave", "(I)V"⟩, 7) := ⟨⟨by decide +kernel, by decide +kernel⟩, List.mem_of_getElem? (i := 13) (by decide +kernel), List.mem_of_getElem? (i := 508) (by decide +kernel), List.mem_of_getElem? (i := 509) (by decide +kernel)⟩
theorem lw_p21 : lw_okq (⟨"WaterConsent", "tellingOfProud", "(I)I"⟩, 7) := ⟨⟨by decide +kernel, by decide +kernel⟩, List.mem_of_getElem? (i := 13) (by decide +kernel), List.mem_of_getElem? (i := 512) (by decide +kernel), List.mem_of_getElem? (i := 513) (by decide +kernel)⟩
theorem lw_p22 : lw_okq (⟨"WaterConsent", "tellingOfMild", "(I)I"⟩, 7) := ⟨⟨by decide +kernel, by decide +kernel⟩, List.mem_of_getElem? (i := 13) (by decide +kernel), List.mem_of_getElem? (i := 516) (by decide +kernel), List.mem_of_getElem? (i := 517) (by decide +kernel)⟩
theorem lw_p23 : lw_okq (⟨"WaterConsent", "flatteryOfSulky", "()I"⟩, 7) := ⟨⟨by decide +kernel, by decide +kernel⟩, List.mem_of_getElem? (i := 13) (by decide +kernel), List.mem_of_getElem? (i := 524) (by decide +kernel), List.mem_of_getElem? (i := 525) (by decide +kernel)⟩
theorem lw_p24 : lw_okq (⟨"WaterConsent", "flatteryLent", "(I)I"⟩, 7) := ⟨⟨by decide +kernel, by decide +kernel⟩, List.mem_of_getElem? (i := 13) (by decide +kernel), List.mem_of_getElem? (i := 528) (by decide +kernel), List.mem_of_getElem? (i := 529) (by decide +kernel)⟩
theorem lw_p25 : lw_okq (⟨"WaterConsentModel", "refused", "(I)I"⟩, 30) := ⟨⟨by decide +kernel, by decide +kernel⟩, List.mem_of_getElem? (i := 548) (by decide +kernel), List.mem_of_getElem? (i := 657) (by decide +kernel), List.mem_of_getElem? (i := 658) (by decide +kernel)⟩
theorem lw_p26 : lw_okq (⟨"WaterConsentModel", "cellsBarred", "(IIIJ)I"⟩, 30) := ⟨⟨by decide +kernel, by decide +kernel⟩, List.mem_of_getElem? (i := 548) (by decide +kernel), List.mem_of_getElem? (i := 662) (by decide +kernel), List.mem_of_getElem? (i := 663) (by decide +kernel)⟩
theorem lw_p27 : lw_okq (⟨"WaterConsentModel", "failed", "(I)I"⟩, 30) := ⟨⟨by decide +kernel, by decide +kernel⟩, List.mem_of_getElem? (i := 548) (by decide +kernel), List.mem_of_getElem? (i := 666) (by decide +kernel), List.mem_of_getElem? (i := 667) (by decide +kernel)⟩
theorem lw_p28 : lw_okq (⟨"WaterConsentModel", "readsCanal", "(II)Z"⟩, 30) := ⟨⟨by decide +kernel, by decide +kernel⟩, List.mem_of_getElem? (i := 548) (by decide +kernel), List.mem_of_getElem? (i := 673) (by decide +kernel), List.mem_of_getElem? (i := 674) (by decide +kernel)⟩
theorem lw_p29 : lw_okq (⟨"WaterConsentModel", "codeAt", "(II)I"⟩, 30) := ⟨⟨by decide +kernel, by decide +kernel⟩, List.mem_of_getElem? (i := 548) (by decide +kernel), List.mem_of_getElem? (i := 677) (by decide +kernel), List.mem_of_getElem? (i := 678) (by decide +kernel)⟩
theorem lw_p30 : lw_okq (⟨"WaterConsentModel", "figure", "(III)I"⟩, 30) := ⟨⟨by decide +kernel, by decide +kernel⟩, List.mem_of_getElem? (i := 548) (by decide +kernel), List.mem_of_getElem? (i := 681) (by decide +kernel), List.mem_of_getElem? (i := 682) (by decide +kernel)⟩
theorem lw_p31 : lw_okq (⟨"WaterConsentModel", "readsReach", "(II)Z"⟩, 30) := ⟨⟨by decide +kernel, by decide +kernel⟩, List.mem_of_getElem? (i := 548) (by decide +kernel), List.mem_of_getElem? (i := 685) (by decide +kernel), List.mem_of_getElem? (i := 686) (by decide +kernel)⟩
def lw_privs_2 : List (MethodName × Nat) := [(⟨"WaterConsent", "numbersThatFit", "(III)I"⟩, 7), (⟨"WaterConsent", "levelBehindRain", "(I)I"⟩, 7), (⟨"WaterConsent$Sheet", "cutToLane", "(I)I"⟩, 4), (⟨"WaterConsent", "tellingOfSulky", "(I)I"⟩, 7), (⟨"WaterConsent", "leave", "(I)V"⟩, 7), (⟨"WaterConsent", "tellingOfProud", "(I)I"⟩, 7), (⟨"WaterConsent", "tellingOfMild", "(I)I"⟩, 7), (⟨"WaterConsent", "flatteryOfSulky", "()I"⟩, 7), (⟨"WaterConsent", "flatteryLent", "(I)I"⟩, 7), (⟨"WaterConsentModel", "refused", "(I)I"⟩, 30), (⟨"WaterConsentModel", "cellsBarred", "(IIIJ)I"⟩, 30), (⟨"WaterConsentModel", "failed", "(I)I"⟩, 30), (⟨"WaterConsentModel", "readsCanal", "(II)Z"⟩, 30), (⟨"WaterConsentModel", "codeAt", "(II)I"⟩, 30), (⟨"WaterConsentModel", "figure", "(III)I"⟩, 30), (⟨"WaterConsentModel", "readsReach", "(II)Z"⟩, 30)]
theorem lw_r2 : ∀ q ∈ lw_privs_2, lw_okq q := List.forall_mem_cons.mpr ⟨lw_p16, List.forall_mem_cons.mpr ⟨lw_p17, List.forall_mem_cons.mpr ⟨lw_p18, List.forall_mem_cons.mpr ⟨lw_p19, List.forall_mem_cons.mpr ⟨lw_p20, List.forall_mem_cons.mpr ⟨lw_p21, List.forall_mem_cons.mpr ⟨lw_p22, List.forall_mem_cons.mpr ⟨lw_p23, List.forall_mem_cons.mpr ⟨lw_p24, List.forall_mem_cons.mpr ⟨lw_p25, List.forall_mem_cons.mpr ⟨lw_p26, List.forall_mem_cons.mpr ⟨lw_p27, List.forall_mem_cons.mpr ⟨lw_p28, List.forall_mem_cons.mpr ⟨lw_p29, List.forall_mem_cons.mpr ⟨lw_p30, List.forall_mem_cons.mpr ⟨lw_p31, fun _ h => absurd h List.not_mem_nil⟩⟩⟩⟩⟩⟩⟩⟩⟩⟩⟩⟩⟩⟩⟩⟩
theorem lw_p32 : lw_okq (⟨"WaterConsentModel", "noReach", "(I)Z"⟩, 30) := ⟨⟨by decide +kernel, by decide +kernel⟩, List.mem_of_getElem? (i := 548) (by decide +kernel), List.mem_of_getElem? (i := 693) (by decide +kernel), List.mem_of_getElem? (i := 694) (by decide +kernel)⟩
theorem lw_p33 : lw_okq (⟨"WaterConsentModel", "wantOf", "(I)I"⟩, 30) := ⟨⟨by decide +kernel, by decide +kernel⟩, List.mem_of_getElem? (i := 548) (by decide +kernel), List.mem_of_getElem? (i := 697) (by decide +kernel), List.mem_of_getElem? (i := 698) (by decide +kernel)⟩
theorem lw_p34 : lw_okq (⟨"WaterConsentModel", "begin", "()V"⟩, 30) := ⟨⟨by decide +kernel, by decide +kernel⟩, List.mem_of_getElem? (i := 548) (by decide +kernel), List.mem_of_getElem? (i := 714) (by decide +kernel), List.mem_of_getElem? (i := 715) (by decide +kernel)⟩
theorem lw_p35 : lw_okq (⟨"WaterConsentModel", "gatesNow", "()I"⟩, 30) := ⟨⟨by decide +kernel, by decide +kernel⟩, List.mem_of_getElem? (i := 548) (by decide +kernel), List.mem_of_getElem? (i := 718) (by decide +kernel), List.mem_of_getElem? (i := 719) (by decide +kernel)⟩
theorem lw_p36 : lw_okq (⟨"WaterConsentModel", "mayOpen", "(I)Z"⟩, 30) := ⟨⟨by decide +kernel, by decide +kernel⟩, List.mem_of_getElem? (i := 548) (by decide +kernel), List.mem_of_getElem? (i := 722) (by decide +kernel), List.mem_of_getElem? (i := 723) (by decide +kernel)⟩
theorem lw_p37 : lw_okq (⟨"WaterConsentModel", "does", "(I)Z"⟩, 30) := ⟨⟨by decide +kernel, by decide +kernel⟩, List.mem_of_getElem? (i := 548) (by decide +kernel), List.mem_of_getElem? (i := 730) (by decide +kernel), List.mem_of_getElem? (i := 731) (by decide +kernel)⟩
theorem lw_p38 : lw_okq (⟨"WaterConsentModel", "goNight", "()V"⟩, 30) := ⟨⟨by decide +kernel, by decide +kernel⟩, List.mem_of_getElem? (i := 548) (by decide +kernel), List.mem_of_getElem? (i := 734) (by decide +kernel), List.mem_of_getElem? (i := 735) (by decide +kernel)⟩
theorem lw_p39 : lw_okq (⟨"WaterConsentModel", "end", "()V"⟩, 30) := ⟨⟨by decide +kernel, by decide +kernel⟩, List.mem_of_getElem? (i := 548) (by decide +kernel), List.mem_of_getElem? (i := 738) (by decide +kernel), List.mem_of_getElem? (i := 739) (by decide +kernel)⟩
theorem lw_p40 : lw_okq (⟨"WaterConsentModel", "goActs", "(II)V"⟩, 30) := ⟨⟨by decide +kernel, by decide +kernel⟩, List.mem_of_getElem? (i := 548) (by decide +kernel), List.mem_of_getElem? (i := 753) (by decide +kernel), List.mem_of_getElem? (i := 754) (by decide +kernel)⟩
theorem lw_p41 : lw_okq (⟨"WaterConsentModel", "actsBy", "(I)I"⟩, 30) := ⟨⟨by decide +kernel, by decide +kernel⟩, List.mem_of_getElem? (i := 548) (by decide +kernel), List.mem_of_getElem? (i := 757) (by decide +kernel), List.mem_of_getElem? (i := 758) (by decide +kernel)⟩
theorem lw_p42 : lw_okq (⟨"WaterConsentModel", "levelsNow", "()I"⟩, 30) := ⟨⟨by decide +kernel, by decide +kernel⟩, List.mem_of_getElem? (i := 548) (by decide +kernel), List.mem_of_getElem? (i := 761) (by decide +kernel), List.mem_of_getElem? (i := 762) (by decide +kernel)⟩
theorem lw_p43 : lw_okq (⟨"WaterConsentModel", "fewest", "(III)I"⟩, 30) := ⟨⟨by decide +kernel, by decide +kernel⟩, List.mem_of_getElem? (i := 548) (by decide +kernel), List.mem_of_getElem? (i := 771) (by decide +kernel), List.mem_of_getElem? (i := 772) (by decide +kernel)⟩
theorem lw_p44 : lw_okq (⟨"WaterConsentModel", "wayNow", "()I"⟩, 30) := ⟨⟨by decide +kernel, by decide +kernel⟩, List.mem_of_getElem? (i := 548) (by decide +kernel), List.mem_of_getElem? (i := 775) (by decide +kernel), List.mem_of_getElem? (i := 776) (by decide +kernel)⟩
theorem lw_p45 : lw_okq (⟨"WaterConsentModel", "comeTo", "(II)V"⟩, 30) := ⟨⟨by decide +kernel, by decide +kernel⟩, List.mem_of_getElem? (i := 548) (by decide +kernel), List.mem_of_getElem? (i := 779) (by decide +kernel), List.mem_of_getElem? (i := 780) (by decide +kernel)⟩
theorem lw_p46 : lw_okq (⟨"WaterConsentModel", "goTo", "(I)V"⟩, 30) := ⟨⟨by decide +kernel, by decide +kernel⟩, List.mem_of_getElem? (i := 548) (by decide +kernel), List.mem_of_getElem? (i := 783) (by decide +kernel), List.mem_of_getElem? (i := 784) (by decide +kernel)⟩
theorem lw_p47 : lw_okq (⟨"WaterConsentModel", "isThere", "(II)Z"⟩, 30) := ⟨⟨by decide +kernel, by decide +kernel⟩, List.mem_of_getElem? (i := 548) (by decide +kernel), List.mem_of_getElem? (i := 787) (by decide +kernel), List.mem_of_getElem? (i := 788) (by decide +kernel)⟩
def lw_privs_3 : List (MethodName × Nat) := [(⟨"WaterConsentModel", "noReach", "(I)Z"⟩, 30), (⟨"WaterConsentModel", "wantOf", "(I)I"⟩, 30), (⟨"WaterConsentModel", "begin", "()V"⟩, 30), (⟨"WaterConsentModel", "gatesNow", "()I"⟩, 30), (⟨"WaterConsentModel", "mayOpen", "(I)Z"⟩, 30), (⟨"WaterConsentModel", "does", "(I)Z"⟩, 30), (⟨"WaterConsentModel", "goNight", "()V"⟩, 30), (⟨"WaterConsentModel", "end", "()V"⟩, 30), (⟨"WaterConsentModel", "goActs", "(II)V"⟩, 30), (⟨"WaterConsentModel", "actsBy", "(I)I"⟩, 30), (⟨"WaterConsentModel", "levelsNow", "()I"⟩, 30), (⟨"WaterConsentModel", "fewest", "(III)I"⟩, 30), (⟨"WaterConsentModel", "wayNow", "()I"⟩, 30), (⟨"WaterConsentModel", "comeTo", "(II)V"⟩, 30), (⟨"WaterConsentModel", "goTo", "(I)V"⟩, 30), (⟨"WaterConsentModel", "isThere", "(II)Z"⟩, 30)]
theorem lw_r3 : ∀ q ∈ lw_privs_3, lw_okq q := List.forall_mem_cons.mpr ⟨lw_p32, List.forall_mem_cons.mpr ⟨lw_p33, List.forall_mem_cons.mpr ⟨lw_p34, List.forall_mem_cons.mpr ⟨lw_p35, List.forall_mem_cons.mpr ⟨lw_p36, List.forall_mem_cons.mpr ⟨lw_p37, List.forall_mem_cons.mpr ⟨lw_p38, List.forall_mem_cons.mpr ⟨lw_p39, List.forall_mem_cons.mpr ⟨lw_p40, List.forall_mem_cons.mpr ⟨lw_p41, List.forall_mem_cons.mpr ⟨lw_p42, List.forall_mem_cons.mpr ⟨lw_p43, List.forall_mem_cons.mpr ⟨lw_p44, List.forall_mem_cons.mpr ⟨lw_p45, List.forall_mem_cons.mpr ⟨lw_p46, List.forall_mem_cons.mpr ⟨lw_p47, fun _ h => absurd h List.not_mem_nil⟩⟩⟩⟩⟩⟩⟩⟩⟩⟩⟩⟩⟩⟩⟩⟩
theorem lw_p48 : lw_okq (⟨"WaterConsentModel", "keepRow", "(II)V"⟩, 30) := ⟨⟨by decide +kernel, by decide +kernel⟩, List.mem_of_getElem? (i := 548) (by decide +kernel), List.mem_of_getElem? (i := 791) (by decide +kernel), List.mem_of_getElem? (i := 792) (by decide +kernel)⟩
theorem lw_p49 : lw_okq (⟨"WaterConsentModel", "goOn", "(I)V"⟩, 30) := ⟨⟨by decide +kernel, by decide +kernel⟩, List.mem_of_getElem? (i := 548) (by decide +kernel), List.mem_of_getElem? (i := 795) (by decide +kernel), List.mem_of_getElem? (i := 796) (by decide +kernel)⟩
theorem lw_p50 : lw_okq (⟨"WaterConsentModel", "actOf", "(II)I"⟩, 30) := ⟨⟨by decide +kernel, by decide +kernel⟩, List.mem_of_getElem? (i := 548) (by decide +kernel), List.mem_of_getElem? (i := 799) (by decide +kernel), List.mem_of_getElem? (i := 800) (by decide +kernel)⟩
theorem lw_p51 : lw_okq (⟨"WaterConsentModel", "areSo", "()Z"⟩, 30) := ⟨⟨by decide +kernel, by decide +kernel⟩, List.mem_of_getElem? (i := 548) (by decide +kernel), List.mem_of_getElem? (i := 819) (by decide +kernel), List.mem_of_getElem? (i := 820) (by decide +kernel)⟩
theorem lw_p52 : lw_okq (⟨"WaterConsentModel", "noCell", "(II)I"⟩, 30) := ⟨⟨by decide +kernel, by decide +kernel⟩, List.mem_of_getElem? (i := 548) (by decide +kernel), List.mem_of_getElem? (i := 855) (by decide +kernel), List.mem_of_getElem? (i := 856) (by decide +kernel)⟩
theorem lw_p53 : lw_okq (⟨"WaterConsentModel", "failedLong", "(I)J"⟩, 30) := ⟨⟨by decide +kernel, by decide +kernel⟩, List.mem_of_getElem? (i := 548) (by decide +kernel), List.mem_of_getElem? (i := 863) (by decide +kernel), List.mem_of_getElem? (i := 864) (by decide +kernel)⟩
theorem lw_p54 : lw_okq (⟨"WaterConsentModel", "traced", "(I)V"⟩, 30) := ⟨⟨by decide +kernel, by decide +kernel⟩, List.mem_of_getElem? (i := 548) (by decide +kernel), List.mem_of_getElem? (i := 875) (by decide +kernel), List.mem_of_getElem? (i := 876) (by decide +kernel)⟩
theorem lw_p55 : lw_okq (⟨"WaterConsentModel", "allLevels", "()I"⟩, 30) := ⟨⟨by decide +kernel, by decide +kernel⟩, List.mem_of_getElem? (i := 548) (by decide +kernel), List.mem_of_getElem? (i := 899) (by decide +kernel), List.mem_of_getElem? (i := 900) (by decide +kernel)⟩
def lw_privs_4 : List (MethodName × Nat) := [(⟨"WaterConsentModel", "keepRow", "(II)V"⟩, 30), (⟨"WaterConsentModel", "goOn", "(I)V"⟩, 30), (⟨"WaterConsentModel", "actOf", "(II)I"⟩, 30), (⟨"WaterConsentModel", "areSo", "()Z"⟩, 30), (⟨"WaterConsentModel", "noCell", "(II)I"⟩, 30), (⟨"WaterConsentModel", "failedLong", "(I)J"⟩, 30), (⟨"WaterConsentModel", "traced", "(I)V"⟩, 30), (⟨"WaterConsentModel", "allLevels", "()I"⟩, 30)]
theorem lw_r4 : ∀ q ∈ lw_privs_4, lw_okq q := List.forall_mem_cons.mpr ⟨lw_p48, List.forall_mem_cons.mpr ⟨lw_p49, List.forall_mem_cons.mpr ⟨lw_p50, List.forall_mem_cons.mpr ⟨lw_p51, List.forall_mem_cons.mpr ⟨lw_p52, List.forall_mem_cons.mpr ⟨lw_p53, List.forall_mem_cons.mpr ⟨lw_p54, List.forall_mem_cons.mpr ⟨lw_p55, fun _ h => absurd h List.not_mem_nil⟩⟩⟩⟩⟩⟩⟩⟩
def lw_privs : List (MethodName × Nat) := lw_privs_1 ++ (lw_privs_2 ++ (lw_privs_3 ++ (lw_privs_4)))
def lw_tbl : List Cond := k2_sels lw_privs ++ tables_1
theorem lw_privs_ok : ∀ q ∈ lw_privs, lw_okq q := by
  show ∀ q ∈ lw_privs_1 ++ (lw_privs_2 ++ (lw_privs_3 ++ (lw_privs_4))), lw_okq q
  exact List.forall_mem_append.mpr ⟨lw_r1, List.forall_mem_append.mpr ⟨lw_r2, List.forall_mem_append.mpr ⟨lw_r3, lw_r4⟩⟩⟩
/-! ===== BEGIN words of one list among another's, by their places ===== -/
theorem goodIn_r {big : List Cond} (ws : List Cond) (ps : List Nat) (hp : ws = ps.filterMap (fun i => big[i]?)) (h : ws.all goodWord = true) : GoodIn big ws := by
  intro w hw
  have h1 := List.all_eq_true.mp h w hw
  rw [hp] at hw
  obtain ⟨i, -, hi⟩ := List.mem_filterMap.mp hw
  have hm : w ∈ big := by first | exact List.mem_of_getElem? hi | exact List.getElem?_mem hi
  exact ⟨hm, good_of_word h1⟩
theorem goodIn_app {big a b : List Cond} (ha : GoodIn big a) (hb : GoodIn big b) : GoodIn big (a ++ b) := fun w h => (List.mem_append.mp h).elim (ha w) (hb w)
theorem goodIn_ca {big a b : List Cond} {c : Cond} (ha : GoodIn big (c :: a)) (hb : GoodIn big b) : GoodIn big (c :: (a ++ b)) := fun w h => (List.mem_cons.mp h).elim (fun e => ha w (List.mem_cons.mpr (Or.inl e))) (fun h => (List.mem_append.mp h).elim (fun h => ha w (List.mem_cons.mpr (Or.inr h))) (hb w))
theorem goodIn_sub {big ws : List Cond} (hm : ∀ w ∈ ws, w ∈ big) (h : ws.all goodWord = true) : GoodIn big ws := fun w hw => ⟨hm w hw, good_of_word (List.all_eq_true.mp h w hw)⟩
/-! ===== END ===== -/

/-! ===== BEGIN printed: names, fields, word lists, decode rows ===== -/
def RX0 : String := "WaterConsent$Canal"
def TX0 : u_T := fun k => match k with
  | 0 => ("WaterConsent$Canal", "count", "I", false)
  | 1 => ("WaterConsent$Canal", "rain", "I", false)
  | 2 => ("WaterConsent$Canal", "kind", "[I", true)
  | 3 => ("WaterConsent$Canal", "level", "[I", true)
  | _ => ("WaterConsent$Canal", "limit", "[I", true)
def tyX0 : Nat → FieldType := fun k => match k with
  | 0 => .int
  | 1 => .int
  | 2 => .array .int
  | 3 => .array .int
  | _ => .array .int
abbrev wsX00 : List Cond := u_ws RX0 TX0 5
theorem nmX0 : ∀ a, a < 5 → ∀ b, b < 5 → a ≠ b → (TX0 a).2.1 ≠ (TX0 b).2.1 := by decide +kernel
theorem tyX0_ok : ∀ k, k < 5 → parseFieldDescriptor (TX0 k).2.2.1 = some (tyX0 k) := by decide +kernel
abbrev cX0_init : ByteArray := prog_2_method_1_code
def yX0_init : MethodName := ⟨RX0, "<init>", "()V"⟩
abbrev cX0_isNone : ByteArray := prog_2_method_2_code
def yX0_isNone : MethodName := ⟨RX0, "isNone", "()Z"⟩
abbrev cX0_has : ByteArray := prog_2_method_3_code
def yX0_has : MethodName := ⟨RX0, "has", "(I)Z"⟩
abbrev cX0_lastReach : ByteArray := prog_2_method_4_code
def yX0_lastReach : MethodName := ⟨RX0, "lastReach", "()I"⟩
abbrev cX0_hasGate : ByteArray := prog_2_method_5_code
def yX0_hasGate : MethodName := ⟨RX0, "hasGate", "(I)Z"⟩
abbrev cX0_kindOf : ByteArray := prog_2_method_6_code
def yX0_kindOf : MethodName := ⟨RX0, "kindOf", "(I)I"⟩
abbrev cX0_levelOf : ByteArray := prog_2_method_7_code
def yX0_levelOf : MethodName := ⟨RX0, "levelOf", "(I)I"⟩
abbrev cX0_limitOf : ByteArray := prog_2_method_8_code
def yX0_limitOf : MethodName := ⟨RX0, "limitOf", "(I)I"⟩
abbrev cX0_wantOf : ByteArray := prog_2_method_9_code
def yX0_wantOf : MethodName := ⟨RX0, "wantOf", "(I)I"⟩
abbrev cX0_become : ByteArray := prog_2_method_10_code
def yX0_become : MethodName := ⟨RX0, "become", "(III)V"⟩
abbrev cX0_takeOver : ByteArray := prog_2_method_11_code
def yX0_takeOver : MethodName := ⟨RX0, "takeOver", "(LWaterConsent$Canal;)V"⟩
abbrev cX0_mayBeOpened : ByteArray := prog_2_method_12_code
def yX0_mayBeOpened : MethodName := ⟨RX0, "mayBeOpened", "(I)Z"⟩
abbrev cX0_gatesThatMayBeOpened : ByteArray := prog_2_method_13_code
def yX0_gatesThatMayBeOpened : MethodName := ⟨RX0, "gatesThatMayBeOpened", "()I"⟩
abbrev cX0_letThrough : ByteArray := prog_2_method_14_code
def yX0_letThrough : MethodName := ⟨RX0, "letThrough", "(I)V"⟩
abbrev cX0_passNight : ByteArray := prog_2_method_15_code
def yX0_passNight : MethodName := ⟨RX0, "passNight", "()V"⟩
abbrev cX0_levelsTogether : ByteArray := prog_2_method_16_code
def yX0_levelsTogether : MethodName := ⟨RX0, "levelsTogether", "()I"⟩
def RX1 : String := "WaterConsent$Readings"
def TX1 : u_T := fun k => match k with
  | 0 => ("WaterConsent$Readings", "count", "I", false)
  | 1 => ("WaterConsent$Readings", "reach", "[I", true)
  | 2 => ("WaterConsent$Readings", "level", "[I", true)
  | _ => ("WaterConsent$Readings", "did", "[Z", true)
def tyX1 : Nat → FieldType := fun k => match k with
  | 0 => .int
  | 1 => .array .int
  | 2 => .array .int
  | _ => .array .boolean
abbrev wsX10 : List Cond := u_ws RX1 TX1 4
theorem nmX1 : ∀ a, a < 4 → ∀ b, b < 4 → a ≠ b → (TX1 a).2.1 ≠ (TX1 b).2.1 := by decide +kernel
theorem tyX1_ok : ∀ k, k < 4 → parseFieldDescriptor (TX1 k).2.2.1 = some (tyX1 k) := by decide +kernel
abbrev cX1_init : ByteArray := prog_3_method_1_code
def yX1_init : MethodName := ⟨RX1, "<init>", "()V"⟩
abbrev cX1_note : ByteArray := prog_3_method_2_code
def yX1_note : MethodName := ⟨RX1, "note", "(IIZ)Z"⟩
abbrev cX1_areSoIn : ByteArray := prog_3_method_3_code
def yX1_areSoIn : MethodName := ⟨RX1, "areSoIn", "(LWaterConsent$Canal;)Z"⟩
def RX2 : String := "WaterConsent$Search"
def TX2 : u_T := fun k => match k with
  | 0 => ("WaterConsent$Search", "cameBy", "[I", true)
  | 1 => ("WaterConsent$Search", "queue", "[I", true)
  | 2 => ("WaterConsent$Search", "tail", "I", false)
  | 3 => ("WaterConsent$Search", "row", "[I", true)
  | 4 => ("WaterConsent$Search", "length", "I", false)
  | 5 => ("WaterConsent$Search", "known", "J", false)
  | 6 => ("WaterConsent$Search", "lastReach", "I", false)
  | 7 => ("WaterConsent$Search", "rain", "I", false)
  | 8 => ("WaterConsent$Search", "wants", "I", false)
  | 9 => ("WaterConsent$Search", "byBoat", "Z", false)
  | 10 => ("WaterConsent$Search", "goalReach", "I", false)
  | _ => ("WaterConsent$Search", "goalLevel", "I", false)
def tyX2 : Nat → FieldType := fun k => match k with
  | 0 => .array .int
  | 1 => .array .int
  | 2 => .int
  | 3 => .array .int
  | 4 => .int
  | 5 => .long
  | 6 => .int
  | 7 => .int
  | 8 => .int
  | 9 => .boolean
  | 10 => .int
  | _ => .int
abbrev wsX20 : List Cond := u_ws RX2 TX2 12
theorem nmX2 : ∀ a, a < 12 → ∀ b, b < 12 → a ≠ b → (TX2 a).2.1 ≠ (TX2 b).2.1 := by decide +kernel
theorem tyX2_ok : ∀ k, k < 12 → parseFieldDescriptor (TX2 k).2.2.1 = some (tyX2 k) := by decide +kernel
abbrev cX2_init : ByteArray := prog_4_method_1_code
def yX2_init : MethodName := ⟨RX2, "<init>", "()V"⟩
abbrev cX2_aimBoatAt : ByteArray := prog_4_method_2_code
def yX2_aimBoatAt : MethodName := ⟨RX2, "aimBoatAt", "(I)V"⟩
abbrev cX2_aimAtLevel : ByteArray := prog_4_method_3_code
def yX2_aimAtLevel : MethodName := ⟨RX2, "aimAtLevel", "(II)V"⟩
abbrev cX2_actAt : ByteArray := prog_4_method_4_code
def yX2_actAt : MethodName := ⟨RX2, "actAt", "(I)I"⟩
abbrev cX2_look : ByteArray := prog_4_method_5_code
def yX2_look : MethodName := ⟨RX2, "look", "(LWaterConsent$Canal;I)V"⟩
abbrev cX2_keyOf : ByteArray := prog_4_method_6_code
def yX2_keyOf : MethodName := ⟨RX2, "keyOf", "(I)J"⟩
abbrev cX2_find : ByteArray := prog_4_method_7_code
def yX2_find : MethodName := ⟨RX2, "find", "(I)V"⟩
abbrev cX2_forgetStates : ByteArray := prog_4_method_8_code
def yX2_forgetStates : MethodName := ⟨RX2, "forgetStates", "()V"⟩
abbrev cX2_goOnFrom : ByteArray := prog_4_method_9_code
def yX2_goOnFrom : MethodName := ⟨RX2, "goOnFrom", "(I)I"⟩
abbrev cX2_behindNight : ByteArray := prog_4_method_10_code
def yX2_behindNight : MethodName := ⟨RX2, "behindNight", "(I)I"⟩
abbrev cX2_behindOpening : ByteArray := prog_4_method_11_code
def yX2_behindOpening : MethodName := ⟨RX2, "behindOpening", "(II)I"⟩
abbrev cX2_comeTo : ByteArray := prog_4_method_12_code
def yX2_comeTo : MethodName := ⟨RX2, "comeTo", "(III)Z"⟩
abbrev cX2_isState : ByteArray := prog_4_method_13_code
def yX2_isState : MethodName := ⟨RX2, "isState", "(I)Z"⟩
abbrev cX2_isGoal : ByteArray := prog_4_method_14_code
def yX2_isGoal : MethodName := ⟨RX2, "isGoal", "(I)Z"⟩
abbrev cX2_keepRowTo : ByteArray := prog_4_method_15_code
def yX2_keepRowTo : MethodName := ⟨RX2, "keepRowTo", "(I)V"⟩
abbrev cX2_digit : ByteArray := prog_4_method_16_code
def yX2_digit : MethodName := ⟨RX2, "digit", "(II)I"⟩
abbrev cX2_weight : ByteArray := prog_4_method_17_code
def yX2_weight : MethodName := ⟨RX2, "weight", "(I)I"⟩
def RX3 : String := "WaterConsent$Sheet"
def TX3 : u_T := fun k => match k with
  | 0 => ("WaterConsent$Sheet", "there", "Z", false)
  | 1 => ("WaterConsent$Sheet", "lane", "I", false)
  | 2 => ("WaterConsent$Sheet", "count", "I", false)
  | _ => ("WaterConsent$Sheet", "cells", "[I", true)
def tyX3 : Nat → FieldType := fun k => match k with
  | 0 => .boolean
  | 1 => .int
  | 2 => .int
  | _ => .array .int
abbrev wsX30 : List Cond := u_ws RX3 TX3 4
theorem nmX3 : ∀ a, a < 4 → ∀ b, b < 4 → a ≠ b → (TX3 a).2.1 ≠ (TX3 b).2.1 := by decide +kernel
theorem tyX3_ok : ∀ k, k < 4 → parseFieldDescriptor (TX3 k).2.2.1 = some (tyX3 k) := by decide +kernel
abbrev cX3_init : ByteArray := prog_5_method_1_code
def yX3_init : MethodName := ⟨RX3, "<init>", "()V"⟩
abbrev cX3_becomeNew : ByteArray := prog_5_method_2_code
def yX3_becomeNew : MethodName := ⟨RX3, "becomeNew", "(II)V"⟩
abbrev cX3_hasCells : ByteArray := prog_5_method_3_code
def yX3_hasCells : MethodName := ⟨RX3, "hasCells", "(II)Z"⟩
abbrev cX3_faultOf : ByteArray := prog_5_method_4_code
def yX3_faultOf : MethodName := ⟨RX3, "faultOf", "(III)I"⟩
abbrev cX3_cellAt : ByteArray := prog_5_method_5_code
def yX3_cellAt : MethodName := ⟨RX3, "cellAt", "(I)I"⟩
abbrev cX3_setCell : ByteArray := prog_5_method_6_code
def yX3_setCell : MethodName := ⟨RX3, "setCell", "(II)V"⟩
abbrev cX3_cutToLane : ByteArray := prog_5_method_7_code
def yX3_cutToLane : MethodName := ⟨RX3, "cutToLane", "(I)I"⟩
def RX4 : String := "WaterConsent$Text"
def TX4 : u_T := fun k => match k with
  | _ => ("", "", "", false)
def tyX4 : Nat → FieldType := fun k => match k with
  | _ => .int
abbrev wsX40 : List Cond := u_ws RX4 TX4 0
theorem nmX4 : ∀ a, a < 0 → ∀ b, b < 0 → a ≠ b → (TX4 a).2.1 ≠ (TX4 b).2.1 := by decide +kernel
theorem tyX4_ok : ∀ k, k < 0 → parseFieldDescriptor (TX4 k).2.2.1 = some (tyX4 k) := by decide +kernel
abbrev cX4_firstFault : ByteArray := prog_6_method_2_code
def yX4_firstFault : MethodName := ⟨RX4, "firstFault", "(LWaterConsent$Sheet;II)I"⟩
abbrev cX4_goesOn : ByteArray := prog_6_method_3_code
def yX4_goesOn : MethodName := ⟨RX4, "goesOn", "(II)Z"⟩
abbrev cX4_take : ByteArray := prog_6_method_4_code
def yX4_take : MethodName := ⟨RX4, "take", "(LWaterConsent$Sheet;IILWaterConsent$Canal;)V"⟩
abbrev cX4_kindOfLetter : ByteArray := prog_6_method_5_code
def yX4_kindOfLetter : MethodName := ⟨RX4, "kindOfLetter", "(I)I"⟩
def RX5 : String := "WaterConsent"
def TX5 : u_T := fun k => match k with
  | 0 => ("WaterConsent", "sheets", "[LWaterConsent$Sheet;", true)
  | 1 => ("WaterConsent", "canal", "LWaterConsent$Canal;", true)
  | 2 => ("WaterConsent", "trial", "LWaterConsent$Canal;", true)
  | 3 => ("WaterConsent", "readings", "LWaterConsent$Readings;", true)
  | 4 => ("WaterConsent", "search", "LWaterConsent$Search;", true)
  | 5 => ("WaterConsent", "trace", "I", false)
  | _ => ("WaterConsent", "fault", "I", false)
def tyX5 : Nat → FieldType := fun k => match k with
  | 0 => .array (.object "WaterConsent$Sheet")
  | 1 => .object "WaterConsent$Canal"
  | 2 => .object "WaterConsent$Canal"
  | 3 => .object "WaterConsent$Readings"
  | 4 => .object "WaterConsent$Search"
  | 5 => .int
  | _ => .int
abbrev wsX50 : List Cond := u_ws RX5 TX5 7
theorem nmX5 : ∀ a, a < 7 → ∀ b, b < 7 → a ≠ b → (TX5 a).2.1 ≠ (TX5 b).2.1 := by decide +kernel
theorem tyX5_ok : ∀ k, k < 7 → parseFieldDescriptor (TX5 k).2.2.1 = some (tyX5 k) := by decide +kernel
abbrev cX5_init : ByteArray := prog_1_method_1_code
def yX5_init : MethodName := ⟨RX5, "<init>", "()V"⟩
abbrev cX5_canal : ByteArray := prog_1_method_2_code
def yX5_canal : MethodName := ⟨RX5, "canal", "(IIII)I"⟩
abbrev cX5_ofReach : ByteArray := prog_1_method_3_code
def yX5_ofReach : MethodName := ⟨RX5, "ofReach", "(II)I"⟩
abbrev cX5_fill : ByteArray := prog_1_method_4_code
def yX5_fill : MethodName := ⟨RX5, "fill", "(II)I"⟩
abbrev cX5_rain : ByteArray := prog_1_method_5_code
def yX5_rain : MethodName := ⟨RX5, "rain", "(I)I"⟩
abbrev cX5_gates : ByteArray := prog_1_method_6_code
def yX5_gates : MethodName := ⟨RX5, "gates", "()I"⟩
abbrev cX5_open : ByteArray := prog_1_method_7_code
def yX5_open : MethodName := ⟨RX5, "open", "(I)I"⟩
abbrev cX5_nights : ByteArray := prog_1_method_8_code
def yX5_nights : MethodName := ⟨RX5, "nights", "(I)I"⟩
abbrev cX5_acts : ByteArray := prog_1_method_9_code
def yX5_acts : MethodName := ⟨RX5, "acts", "(IIIII)I"⟩
abbrev cX5_isWhatOfActs : ByteArray := prog_1_method_10_code
def yX5_isWhatOfActs : MethodName := ⟨RX5, "isWhatOfActs", "(I)Z"⟩
abbrev cX5_areActs : ByteArray := prog_1_method_11_code
def yX5_areActs : MethodName := ⟨RX5, "areActs", "(LWaterConsent$Sheet;II)Z"⟩
abbrev cX5_actOnTrial : ByteArray := prog_1_method_12_code
def yX5_actOnTrial : MethodName := ⟨RX5, "actOnTrial", "(LWaterConsent$Sheet;II)I"⟩
abbrev cX5_behindActs : ByteArray := prog_1_method_13_code
def yX5_behindActs : MethodName := ⟨RX5, "behindActs", "(LWaterConsent$Sheet;III)I"⟩
abbrev cX5_openingsAmong : ByteArray := prog_1_method_14_code
def yX5_openingsAmong : MethodName := ⟨RX5, "openingsAmong", "(LWaterConsent$Sheet;II)I"⟩
abbrev cX5_boat : ByteArray := prog_1_method_15_code
def yX5_boat : MethodName := ⟨RX5, "boat", "(III)I"⟩
abbrev cX5_raise : ByteArray := prog_1_method_16_code
def yX5_raise : MethodName := ⟨RX5, "raise", "(III)I"⟩
abbrev cX5_isPlaceOfRow : ByteArray := prog_1_method_17_code
def yX5_isPlaceOfRow : MethodName := ⟨RX5, "isPlaceOfRow", "(I)Z"⟩
abbrev cX5_reading : ByteArray := prog_1_method_18_code
def yX5_reading : MethodName := ⟨RX5, "reading", "(IIZ)I"⟩
abbrev cX5_back : ByteArray := prog_1_method_19_code
def yX5_back : MethodName := ⟨RX5, "back", "(I)I"⟩
abbrev cX5_limits : ByteArray := prog_1_method_20_code
def yX5_limits : MethodName := ⟨RX5, "limits", "(I)I"⟩
abbrev cX5_kinds : ByteArray := prog_1_method_21_code
def yX5_kinds : MethodName := ⟨RX5, "kinds", "(I)I"⟩
abbrev cX5_levels : ByteArray := prog_1_method_22_code
def yX5_levels : MethodName := ⟨RX5, "levels", "(I)I"⟩
abbrev cX5_numbersThatFit : ByteArray := prog_1_method_23_code
def yX5_numbersThatFit : MethodName := ⟨RX5, "numbersThatFit", "(III)I"⟩
abbrev cX5_odds : ByteArray := prog_1_method_24_code
def yX5_odds : MethodName := ⟨RX5, "odds", "(III)J"⟩
abbrev cX5_levelBehindRain : ByteArray := prog_1_method_25_code
def yX5_levelBehindRain : MethodName := ⟨RX5, "levelBehindRain", "(I)I"⟩
abbrev cX5_greatestCommon : ByteArray := prog_1_method_26_code
def yX5_greatestCommon : MethodName := ⟨RX5, "greatestCommon", "(II)I"⟩
abbrev cX5_sheet : ByteArray := prog_1_method_27_code
def yX5_sheet : MethodName := ⟨RX5, "sheet", "(III)I"⟩
abbrev cX5_lose : ByteArray := prog_1_method_28_code
def yX5_lose : MethodName := ⟨RX5, "lose", "(I)I"⟩
abbrev cX5_put : ByteArray := prog_1_method_29_code
def yX5_put : MethodName := ⟨RX5, "put", "(III)I"⟩
abbrev cX5_cell : ByteArray := prog_1_method_30_code
def yX5_cell : MethodName := ⟨RX5, "cell", "(III)J"⟩
abbrev cX5_copy : ByteArray := prog_1_method_31_code
def yX5_copy : MethodName := ⟨RX5, "copy", "(IIIII)I"⟩
abbrev cX5_tell : ByteArray := prog_1_method_32_code
def yX5_tell : MethodName := ⟨RX5, "tell", "(I)I"⟩
abbrev cX5_tellingOfMild : ByteArray := prog_1_method_33_code
def yX5_tellingOfMild : MethodName := ⟨RX5, "tellingOfMild", "(I)I"⟩
abbrev cX5_tellingOfProud : ByteArray := prog_1_method_34_code
def yX5_tellingOfProud : MethodName := ⟨RX5, "tellingOfProud", "(I)I"⟩
abbrev cX5_tellingOfSulky : ByteArray := prog_1_method_35_code
def yX5_tellingOfSulky : MethodName := ⟨RX5, "tellingOfSulky", "(I)I"⟩
abbrev cX5_flatter : ByteArray := prog_1_method_36_code
def yX5_flatter : MethodName := ⟨RX5, "flatter", "(I)I"⟩
abbrev cX5_flatteryLent : ByteArray := prog_1_method_37_code
def yX5_flatteryLent : MethodName := ⟨RX5, "flatteryLent", "(I)I"⟩
abbrev cX5_flatteryOfSulky : ByteArray := prog_1_method_38_code
def yX5_flatteryOfSulky : MethodName := ⟨RX5, "flatteryOfSulky", "()I"⟩
abbrev cX5_leave : ByteArray := prog_1_method_39_code
def yX5_leave : MethodName := ⟨RX5, "leave", "(I)V"⟩
abbrev cX5_as : ByteArray := prog_1_method_40_code
def yX5_as : MethodName := ⟨RX5, "as", "(II)I"⟩
abbrev cX5_trace : ByteArray := prog_1_method_41_code
def yX5_trace : MethodName := ⟨RX5, "trace", "()I"⟩
abbrev cX5_fault : ByteArray := prog_1_method_42_code
def yX5_fault : MethodName := ⟨RX5, "fault", "()I"⟩
abbrev cX5_many : ByteArray := prog_1_method_43_code
def yX5_many : MethodName := ⟨RX5, "many", "(I)I"⟩
abbrev cX5_sheetAt : ByteArray := prog_1_method_44_code
def yX5_sheetAt : MethodName := ⟨RX5, "sheetAt", "(I)LWaterConsent$Sheet;"⟩
abbrev cX5_faulted : ByteArray := prog_1_method_45_code
def yX5_faulted : MethodName := ⟨RX5, "faulted", "(I)I"⟩
abbrev cX5_isLane : ByteArray := prog_1_method_46_code
def yX5_isLane : MethodName := ⟨RX5, "isLane", "(I)Z"⟩
abbrev cX5_isFrom0To : ByteArray := prog_1_method_47_code
def yX5_isFrom0To : MethodName := ⟨RX5, "isFrom0To", "(II)Z"⟩
def RX6 : String := "WaterConsentModel"
def TX6 : u_T := fun k => match k with
  | 0 => ("WaterConsentModel", "fault", "I", false)
  | 1 => ("WaterConsentModel", "rainNow", "I", false)
  | 2 => ("WaterConsentModel", "reaches", "I", false)
  | 3 => ("WaterConsentModel", "kindOf", "[I", true)
  | 4 => ("WaterConsentModel", "levelOf", "[I", true)
  | 5 => ("WaterConsentModel", "limitOf", "[I", true)
  | 6 => ("WaterConsentModel", "readAt", "I", false)
  | 7 => ("WaterConsentModel", "readRain", "I", false)
  | 8 => ("WaterConsentModel", "readReaches", "I", false)
  | 9 => ("WaterConsentModel", "readKind", "[I", true)
  | 10 => ("WaterConsentModel", "readLevel", "[I", true)
  | 11 => ("WaterConsentModel", "readLimit", "[I", true)
  | 12 => ("WaterConsentModel", "levelNow", "[I", true)
  | 13 => ("WaterConsentModel", "silence", "I", false)
  | 14 => ("WaterConsentModel", "openings", "I", false)
  | 15 => ("WaterConsentModel", "cameBy", "[I", true)
  | 16 => ("WaterConsentModel", "queue", "[I", true)
  | 17 => ("WaterConsentModel", "queued", "I", false)
  | 18 => ("WaterConsentModel", "boatNow", "I", false)
  | 19 => ("WaterConsentModel", "rowFound", "[I", true)
  | 20 => ("WaterConsentModel", "rowSize", "I", false)
  | 21 => ("WaterConsentModel", "readings", "I", false)
  | 22 => ("WaterConsentModel", "readingOf", "[I", true)
  | 23 => ("WaterConsentModel", "readingAt", "[I", true)
  | 24 => ("WaterConsentModel", "readingDid", "[Z", true)
  | 25 => ("WaterConsentModel", "sheetSize", "[I", true)
  | 26 => ("WaterConsentModel", "sheetLane", "[I", true)
  | 27 => ("WaterConsentModel", "sheet", "[I", true)
  | 28 => ("WaterConsentModel", "hands", "[I", true)
  | _ => ("WaterConsentModel", "traceNow", "I", false)
def tyX6 : Nat → FieldType := fun k => match k with
  | 0 => .int
  | 1 => .int
  | 2 => .int
  | 3 => .array .int
  | 4 => .array .int
  | 5 => .array .int
  | 6 => .int
  | 7 => .int
  | 8 => .int
  | 9 => .array .int
  | 10 => .array .int
  | 11 => .array .int
  | 12 => .array .int
  | 13 => .int
  | 14 => .int
  | 15 => .array .int
  | 16 => .array .int
  | 17 => .int
  | 18 => .int
  | 19 => .array .int
  | 20 => .int
  | 21 => .int
  | 22 => .array .int
  | 23 => .array .int
  | 24 => .array .boolean
  | 25 => .array .int
  | 26 => .array .int
  | 27 => .array .int
  | 28 => .array .int
  | _ => .int
abbrev wsX60 : List Cond := u_ws RX6 TX6 30
theorem nmX6 : ∀ a, a < 30 → ∀ b, b < 30 → a ≠ b → (TX6 a).2.1 ≠ (TX6 b).2.1 := by decide +kernel
theorem tyX6_ok : ∀ k, k < 30 → parseFieldDescriptor (TX6 k).2.2.1 = some (tyX6 k) := by decide +kernel
abbrev cX6_init : ByteArray := prog_8_method_1_code
def yX6_init : MethodName := ⟨RX6, "<init>", "()V"⟩
abbrev cX6_in : ByteArray := prog_8_method_2_code
def yX6_in : MethodName := ⟨RX6, "in", "(JJJ)Z"⟩
abbrev cX6_lost : ByteArray := prog_8_method_3_code
def yX6_lost : MethodName := ⟨RX6, "lost", "()J"⟩
abbrev cX6_share : ByteArray := prog_8_method_4_code
def yX6_share : MethodName := ⟨RX6, "share", "(JJI)J"⟩
abbrev cX6_refused : ByteArray := prog_8_method_5_code
def yX6_refused : MethodName := ⟨RX6, "refused", "(I)I"⟩
abbrev cX6_failed : ByteArray := prog_8_method_6_code
def yX6_failed : MethodName := ⟨RX6, "failed", "(I)I"⟩
abbrev cX6_failedLong : ByteArray := prog_8_method_7_code
def yX6_failedLong : MethodName := ⟨RX6, "failedLong", "(I)J"⟩
abbrev cX6_noReach : ByteArray := prog_8_method_8_code
def yX6_noReach : MethodName := ⟨RX6, "noReach", "(I)Z"⟩
abbrev cX6_codeAt : ByteArray := prog_8_method_9_code
def yX6_codeAt : MethodName := ⟨RX6, "codeAt", "(II)I"⟩
abbrev cX6_figure : ByteArray := prog_8_method_10_code
def yX6_figure : MethodName := ⟨RX6, "figure", "(III)I"⟩
abbrev cX6_readsReach : ByteArray := prog_8_method_11_code
def yX6_readsReach : MethodName := ⟨RX6, "readsReach", "(II)Z"⟩
abbrev cX6_readsCanal : ByteArray := prog_8_method_12_code
def yX6_readsCanal : MethodName := ⟨RX6, "readsCanal", "(II)Z"⟩
abbrev cX6_cellsBarred : ByteArray := prog_8_method_13_code
def yX6_cellsBarred : MethodName := ⟨RX6, "cellsBarred", "(IIIJ)I"⟩
abbrev cX6_canal : ByteArray := prog_8_method_14_code
def yX6_canal : MethodName := ⟨RX6, "canal", "(IIII)I"⟩
abbrev cX6_wantOf : ByteArray := prog_8_method_15_code
def yX6_wantOf : MethodName := ⟨RX6, "wantOf", "(I)I"⟩
abbrev cX6_ofReach : ByteArray := prog_8_method_16_code
def yX6_ofReach : MethodName := ⟨RX6, "ofReach", "(II)I"⟩
abbrev cX6_fill : ByteArray := prog_8_method_17_code
def yX6_fill : MethodName := ⟨RX6, "fill", "(II)I"⟩
abbrev cX6_rain : ByteArray := prog_8_method_18_code
def yX6_rain : MethodName := ⟨RX6, "rain", "(I)I"⟩
abbrev cX6_begin : ByteArray := prog_8_method_19_code
def yX6_begin : MethodName := ⟨RX6, "begin", "()V"⟩
abbrev cX6_end : ByteArray := prog_8_method_20_code
def yX6_end : MethodName := ⟨RX6, "end", "()V"⟩
abbrev cX6_mayOpen : ByteArray := prog_8_method_21_code
def yX6_mayOpen : MethodName := ⟨RX6, "mayOpen", "(I)Z"⟩
abbrev cX6_gatesNow : ByteArray := prog_8_method_22_code
def yX6_gatesNow : MethodName := ⟨RX6, "gatesNow", "()I"⟩
abbrev cX6_goNight : ByteArray := prog_8_method_23_code
def yX6_goNight : MethodName := ⟨RX6, "goNight", "()V"⟩
abbrev cX6_does : ByteArray := prog_8_method_24_code
def yX6_does : MethodName := ⟨RX6, "does", "(I)Z"⟩
abbrev cX6_gates : ByteArray := prog_8_method_25_code
def yX6_gates : MethodName := ⟨RX6, "gates", "()I"⟩
abbrev cX6_open : ByteArray := prog_8_method_26_code
def yX6_open : MethodName := ⟨RX6, "open", "(I)I"⟩
abbrev cX6_nights : ByteArray := prog_8_method_27_code
def yX6_nights : MethodName := ⟨RX6, "nights", "(I)I"⟩
abbrev cX6_goActs : ByteArray := prog_8_method_28_code
def yX6_goActs : MethodName := ⟨RX6, "goActs", "(II)V"⟩
abbrev cX6_levelsNow : ByteArray := prog_8_method_29_code
def yX6_levelsNow : MethodName := ⟨RX6, "levelsNow", "()I"⟩
abbrev cX6_actsBy : ByteArray := prog_8_method_30_code
def yX6_actsBy : MethodName := ⟨RX6, "actsBy", "(I)I"⟩
abbrev cX6_acts : ByteArray := prog_8_method_31_code
def yX6_acts : MethodName := ⟨RX6, "acts", "(IIIII)I"⟩
abbrev cX6_wayNow : ByteArray := prog_8_method_32_code
def yX6_wayNow : MethodName := ⟨RX6, "wayNow", "()I"⟩
abbrev cX6_goTo : ByteArray := prog_8_method_33_code
def yX6_goTo : MethodName := ⟨RX6, "goTo", "(I)V"⟩
abbrev cX6_isThere : ByteArray := prog_8_method_34_code
def yX6_isThere : MethodName := ⟨RX6, "isThere", "(II)Z"⟩
abbrev cX6_comeTo : ByteArray := prog_8_method_35_code
def yX6_comeTo : MethodName := ⟨RX6, "comeTo", "(II)V"⟩
abbrev cX6_keepRow : ByteArray := prog_8_method_36_code
def yX6_keepRow : MethodName := ⟨RX6, "keepRow", "(II)V"⟩
abbrev cX6_goOn : ByteArray := prog_8_method_37_code
def yX6_goOn : MethodName := ⟨RX6, "goOn", "(I)V"⟩
abbrev cX6_fewest : ByteArray := prog_8_method_38_code
def yX6_fewest : MethodName := ⟨RX6, "fewest", "(III)I"⟩
abbrev cX6_actOf : ByteArray := prog_8_method_39_code
def yX6_actOf : MethodName := ⟨RX6, "actOf", "(II)I"⟩
abbrev cX6_boat : ByteArray := prog_8_method_40_code
def yX6_boat : MethodName := ⟨RX6, "boat", "(III)I"⟩
abbrev cX6_raise : ByteArray := prog_8_method_41_code
def yX6_raise : MethodName := ⟨RX6, "raise", "(III)I"⟩
abbrev cX6_reading : ByteArray := prog_8_method_42_code
def yX6_reading : MethodName := ⟨RX6, "reading", "(IIZ)I"⟩
abbrev cX6_back : ByteArray := prog_8_method_43_code
def yX6_back : MethodName := ⟨RX6, "back", "(I)I"⟩
abbrev cX6_areSo : ByteArray := prog_8_method_44_code
def yX6_areSo : MethodName := ⟨RX6, "areSo", "()Z"⟩
abbrev cX6_limits : ByteArray := prog_8_method_45_code
def yX6_limits : MethodName := ⟨RX6, "limits", "(I)I"⟩
abbrev cX6_kinds : ByteArray := prog_8_method_46_code
def yX6_kinds : MethodName := ⟨RX6, "kinds", "(I)I"⟩
abbrev cX6_levels : ByteArray := prog_8_method_47_code
def yX6_levels : MethodName := ⟨RX6, "levels", "(I)I"⟩
abbrev cX6_odds : ByteArray := prog_8_method_48_code
def yX6_odds : MethodName := ⟨RX6, "odds", "(III)J"⟩
abbrev cX6_noSheet : ByteArray := prog_8_method_49_code
def yX6_noSheet : MethodName := ⟨RX6, "noSheet", "(I)Z"⟩
abbrev cX6_sheet : ByteArray := prog_8_method_50_code
def yX6_sheet : MethodName := ⟨RX6, "sheet", "(III)I"⟩
abbrev cX6_lose : ByteArray := prog_8_method_51_code
def yX6_lose : MethodName := ⟨RX6, "lose", "(I)I"⟩
abbrev cX6_noCell : ByteArray := prog_8_method_52_code
def yX6_noCell : MethodName := ⟨RX6, "noCell", "(II)I"⟩
abbrev cX6_put : ByteArray := prog_8_method_53_code
def yX6_put : MethodName := ⟨RX6, "put", "(III)I"⟩
abbrev cX6_cell : ByteArray := prog_8_method_54_code
def yX6_cell : MethodName := ⟨RX6, "cell", "(III)J"⟩
abbrev cX6_isBeyond : ByteArray := prog_8_method_55_code
def yX6_isBeyond : MethodName := ⟨RX6, "isBeyond", "(IJI)Z"⟩
abbrev cX6_copy : ByteArray := prog_8_method_56_code
def yX6_copy : MethodName := ⟨RX6, "copy", "(IIIII)I"⟩
abbrev cX6_traced : ByteArray := prog_8_method_57_code
def yX6_traced : MethodName := ⟨RX6, "traced", "(I)V"⟩
abbrev cX6_tell : ByteArray := prog_8_method_58_code
def yX6_tell : MethodName := ⟨RX6, "tell", "(I)I"⟩
abbrev cX6_flatter : ByteArray := prog_8_method_59_code
def yX6_flatter : MethodName := ⟨RX6, "flatter", "(I)I"⟩
abbrev cX6_as : ByteArray := prog_8_method_60_code
def yX6_as : MethodName := ⟨RX6, "as", "(II)I"⟩
abbrev cX6_trace : ByteArray := prog_8_method_61_code
def yX6_trace : MethodName := ⟨RX6, "trace", "()I"⟩
abbrev cX6_fault : ByteArray := prog_8_method_62_code
def yX6_fault : MethodName := ⟨RX6, "fault", "()I"⟩
abbrev cX6_allLevels : ByteArray := prog_8_method_63_code
def yX6_allLevels : MethodName := ⟨RX6, "allLevels", "()I"⟩
abbrev cX6_many : ByteArray := prog_8_method_64_code
def yX6_many : MethodName := ⟨RX6, "many", "(I)I"⟩
def RJ6 : String := "java/lang/Integer"
def TJ6 : u_T := fun k => match k with
  | _ => ("", "", "", false)
def tyJ6 : Nat → FieldType := fun k => match k with
  | _ => .int
abbrev wsJ60 : List Cond := u_ws RJ6 TJ6 0
theorem nmJ6 : ∀ a, a < 0 → ∀ b, b < 0 → a ≠ b → (TJ6 a).2.1 ≠ (TJ6 b).2.1 := by decide +kernel
theorem tyJ6_ok : ∀ k, k < 0 → parseFieldDescriptor (TJ6 k).2.2.1 = some (tyJ6 k) := by decide +kernel
abbrev cJ6_bitCount_0f7a4 : ByteArray := prog_9_method_49_code
def yJ6_bitCount_0f7a4 : MethodName := ⟨RJ6, "bitCount", "(I)I"⟩
def RJ9 : String := "java/lang/Math"
def TJ9 : u_T := fun k => match k with
  | _ => ("", "", "", false)
def tyJ9 : Nat → FieldType := fun k => match k with
  | _ => .int
abbrev wsJ90 : List Cond := u_ws RJ9 TJ9 0
theorem nmJ9 : ∀ a, a < 0 → ∀ b, b < 0 → a ≠ b → (TJ9 a).2.1 ≠ (TJ9 b).2.1 := by decide +kernel
theorem tyJ9_ok : ∀ k, k < 0 → parseFieldDescriptor (TJ9 k).2.2.1 = some (tyJ9 k) := by decide +kernel
abbrev cJ9_max_7cf53 : ByteArray := prog_10_method_65_code
def yJ9_max_7cf53 : MethodName := ⟨RJ9, "max", "(II)I"⟩
abbrev cJ9_min_7cf53 : ByteArray := prog_10_method_69_code
def yJ9_min_7cf53 : MethodName := ⟨RJ9, "min", "(II)I"⟩
def RJ10 : String := "java/lang/System"
def TJ10 : u_T := fun k => match k with
  | _ => ("", "", "", false)
def tyJ10 : Nat → FieldType := fun k => match k with
  | _ => .int
abbrev wsJ100 : List Cond := u_ws RJ10 TJ10 0
theorem nmJ10 : ∀ a, a < 0 → ∀ b, b < 0 → a ≠ b → (TJ10 a).2.1 ≠ (TJ10 b).2.1 := by decide +kernel
theorem tyJ10_ok : ∀ k, k < 0 → parseFieldDescriptor (TJ10 k).2.2.1 = some (tyJ10 k) := by decide +kernel
def RJ7 : String := "java/util/Arrays"
def TJ7 : u_T := fun k => match k with
  | _ => ("", "", "", false)
def tyJ7 : Nat → FieldType := fun k => match k with
  | _ => .int
abbrev wsJ70 : List Cond := u_ws RJ7 TJ7 0
theorem nmJ7 : ∀ a, a < 0 → ∀ b, b < 0 → a ≠ b → (TJ7 a).2.1 ≠ (TJ7 b).2.1 := by decide +kernel
theorem tyJ7_ok : ∀ k, k < 0 → parseFieldDescriptor (TJ7 k).2.2.1 = some (tyJ7 k) := by decide +kernel
abbrev cJ7_fill_53178 : ByteArray := prog_12_method_103_code
def yJ7_fill_53178 : MethodName := ⟨RJ7, "fill", "([II)V"⟩
def RL : String := "WaterConsentLaw"
abbrev cL_law : ByteArray := code
def yL_law : MethodName := ⟨RL, "law", "([I)Z"⟩
def wsX0_init : List Cond := .code yX0_init cX0_init 1 none :: ([.methodLink RX0 3 objectInit, .instanceMethod objectInit, .code objectInit ⟨#[0xb1]⟩ 1 none, .arrayClass .int, .fieldLink RX0 9 "WaterConsent$Canal" "kind" "[I", .fieldLink RX0 15 "WaterConsent$Canal" "level" "[I", .fieldLink RX0 18 "WaterConsent$Canal" "limit" "[I"] ++ wsX00)
def wsX0_isNone : List Cond := .code yX0_isNone cX0_isNone 1 (some .boolean) :: ([.fieldLink RX0 21 "WaterConsent$Canal" "count" "I"] ++ wsX00)
def wsX0_has : List Cond := .code yX0_has cX0_has 2 (some .boolean) :: ([.fieldLink RX0 21 "WaterConsent$Canal" "count" "I"] ++ wsX00)
def wsX0_lastReach : List Cond := .code yX0_lastReach cX0_lastReach 1 (some .int) :: ([.fieldLink RX0 21 "WaterConsent$Canal" "count" "I"] ++ wsX00)
def wsX0_hasGate : List Cond := .code yX0_hasGate cX0_hasGate 2 (some .boolean) :: ([.methodLink RX0 25 yX0_has, .instanceMethod yX0_has, .selects RX0 yX0_has yX0_has, .initialized RX0, .code yX0_has cX0_has 2 (some .boolean), .fieldLink RX0 21 "WaterConsent$Canal" "count" "I", .methodLink RX0 29 yX0_lastReach, .instanceMethod yX0_lastReach, .selects RX0 yX0_lastReach yX0_lastReach, .code yX0_lastReach cX0_lastReach 1 (some .int)] ++ wsX00)
def wsX0_kindOf : List Cond := .code yX0_kindOf cX0_kindOf 2 (some .int) :: ([.fieldLink RX0 9 "WaterConsent$Canal" "kind" "[I", .methodLink RX0 25 yX0_has, .instanceMethod yX0_has, .selects RX0 yX0_has yX0_has, .initialized RX0, .code yX0_has cX0_has 2 (some .boolean), .fieldLink RX0 21 "WaterConsent$Canal" "count" "I"] ++ wsX00)
def wsX0_levelOf : List Cond := .code yX0_levelOf cX0_levelOf 2 (some .int) :: ([.fieldLink RX0 15 "WaterConsent$Canal" "level" "[I", .methodLink RX0 25 yX0_has, .instanceMethod yX0_has, .selects RX0 yX0_has yX0_has, .initialized RX0, .code yX0_has cX0_has 2 (some .boolean), .fieldLink RX0 21 "WaterConsent$Canal" "count" "I"] ++ wsX00)
def wsX0_limitOf : List Cond := .code yX0_limitOf cX0_limitOf 2 (some .int) :: ([.fieldLink RX0 18 "WaterConsent$Canal" "limit" "[I", .methodLink RX0 25 yX0_has, .instanceMethod yX0_has, .selects RX0 yX0_has yX0_has, .initialized RX0, .code yX0_has cX0_has 2 (some .boolean), .fieldLink RX0 21 "WaterConsent$Canal" "count" "I"] ++ wsX00)
def wsX0_wantOf : List Cond := .code yX0_wantOf cX0_wantOf 3 (some .int) :: ([.methodLink RX0 37 Lib.Math.max.name, .static Lib.Math.max.name, .initialized "java/lang/Math", .code Lib.Math.max.name Lib.Math.max.code 2 (some .int), .methodLink RX0 33 yX0_limitOf, .instanceMethod yX0_limitOf, .selects RX0 yX0_limitOf yX0_limitOf, .initialized RX0, .code yX0_limitOf cX0_limitOf 2 (some .int), .fieldLink RX0 18 "WaterConsent$Canal" "limit" "[I", .methodLink RX0 25 yX0_has, .instanceMethod yX0_has, .selects RX0 yX0_has yX0_has, .code yX0_has cX0_has 2 (some .boolean), .fieldLink RX0 21 "WaterConsent$Canal" "count" "I", .methodLink RX0 43 yX0_kindOf, .instanceMethod yX0_kindOf, .selects RX0 yX0_kindOf yX0_kindOf, .code yX0_kindOf cX0_kindOf 2 (some .int), .fieldLink RX0 9 "WaterConsent$Canal" "kind" "[I"] ++ wsX00)
def wsX0_become : List Cond := .code yX0_become cX0_become 4 none :: ([.fieldLink RX0 9 "WaterConsent$Canal" "kind" "[I", .fieldLink RX0 15 "WaterConsent$Canal" "level" "[I", .fieldLink RX0 18 "WaterConsent$Canal" "limit" "[I", .methodLink RX0 25 yX0_has, .instanceMethod yX0_has, .selects RX0 yX0_has yX0_has, .initialized RX0, .code yX0_has cX0_has 2 (some .boolean), .fieldLink RX0 21 "WaterConsent$Canal" "count" "I"] ++ wsX00)
def wsX0_takeOver_r1 : List Cond := [Cond.fieldLink RX0 21 "WaterConsent$Canal" "count" "I", Cond.fieldLink RX0 46 "WaterConsent$Canal" "rain" "I", Cond.methodLink RX0 43 yX0_kindOf, Cond.instanceMethod yX0_kindOf, Cond.selects RX0 yX0_kindOf yX0_kindOf, Cond.initialized RX0, Cond.code yX0_kindOf cX0_kindOf 2 (some .int), Cond.fieldLink RX0 9 "WaterConsent$Canal" "kind" "[I", Cond.methodLink RX0 25 yX0_has, Cond.instanceMethod yX0_has, Cond.selects RX0 yX0_has yX0_has, Cond.code yX0_has cX0_has 2 (some .boolean), Cond.methodLink RX0 49 yX0_become, Cond.instanceMethod yX0_become, Cond.selects RX0 yX0_become yX0_become, Cond.code yX0_become cX0_become 4 none, Cond.fieldLink RX0 15 "WaterConsent$Canal" "level" "[I", Cond.fieldLink RX0 18 "WaterConsent$Canal" "limit" "[I", Cond.methodLink RX0 53 yX0_levelOf, Cond.instanceMethod yX0_levelOf, Cond.selects RX0 yX0_levelOf yX0_levelOf, Cond.code yX0_levelOf cX0_levelOf 2 (some .int), Cond.methodLink RX0 33 yX0_limitOf, Cond.instanceMethod yX0_limitOf]
def wsX0_takeOver_r2 : List Cond := [Cond.selects RX0 yX0_limitOf yX0_limitOf, Cond.code yX0_limitOf cX0_limitOf 2 (some .int)]
def wsX0_takeOver : List Cond := .code yX0_takeOver cX0_takeOver 3 none :: ((wsX0_takeOver_r1 ++ wsX0_takeOver_r2) ++ wsX00)
def wsX0_mayBeOpened_r1 : List Cond := [Cond.methodLink RX0 56 yX0_hasGate, Cond.instanceMethod yX0_hasGate, Cond.selects RX0 yX0_hasGate yX0_hasGate, Cond.initialized RX0, Cond.code yX0_hasGate cX0_hasGate 2 (some .boolean), Cond.methodLink RX0 25 yX0_has, Cond.instanceMethod yX0_has, Cond.selects RX0 yX0_has yX0_has, Cond.code yX0_has cX0_has 2 (some .boolean), Cond.fieldLink RX0 21 "WaterConsent$Canal" "count" "I", Cond.methodLink RX0 29 yX0_lastReach, Cond.instanceMethod yX0_lastReach, Cond.selects RX0 yX0_lastReach yX0_lastReach, Cond.code yX0_lastReach cX0_lastReach 1 (some .int), Cond.methodLink RX0 53 yX0_levelOf, Cond.instanceMethod yX0_levelOf, Cond.selects RX0 yX0_levelOf yX0_levelOf, Cond.code yX0_levelOf cX0_levelOf 2 (some .int), Cond.fieldLink RX0 15 "WaterConsent$Canal" "level" "[I", Cond.methodLink RX0 59 yX0_wantOf, Cond.instanceMethod yX0_wantOf, Cond.selects RX0 yX0_wantOf yX0_wantOf, Cond.code yX0_wantOf cX0_wantOf 3 (some .int), Cond.methodLink RX0 37 Lib.Math.max.name]
def wsX0_mayBeOpened_r2 : List Cond := [Cond.static Lib.Math.max.name, Cond.initialized "java/lang/Math", Cond.code Lib.Math.max.name Lib.Math.max.code 2 (some .int), Cond.methodLink RX0 33 yX0_limitOf, Cond.instanceMethod yX0_limitOf, Cond.selects RX0 yX0_limitOf yX0_limitOf, Cond.code yX0_limitOf cX0_limitOf 2 (some .int), Cond.fieldLink RX0 18 "WaterConsent$Canal" "limit" "[I", Cond.methodLink RX0 43 yX0_kindOf, Cond.instanceMethod yX0_kindOf, Cond.selects RX0 yX0_kindOf yX0_kindOf, Cond.code yX0_kindOf cX0_kindOf 2 (some .int), Cond.fieldLink RX0 9 "WaterConsent$Canal" "kind" "[I"]
def wsX0_mayBeOpened : List Cond := .code yX0_mayBeOpened cX0_mayBeOpened 2 (some .boolean) :: ((wsX0_mayBeOpened_r1 ++ wsX0_mayBeOpened_r2) ++ wsX00)
def wsX0_gatesThatMayBeOpened_r1 : List Cond := [Cond.methodLink RX0 29 yX0_lastReach, Cond.instanceMethod yX0_lastReach, Cond.selects RX0 yX0_lastReach yX0_lastReach, Cond.initialized RX0, Cond.code yX0_lastReach cX0_lastReach 1 (some .int), Cond.fieldLink RX0 21 "WaterConsent$Canal" "count" "I", Cond.methodLink RX0 62 yX0_mayBeOpened, Cond.instanceMethod yX0_mayBeOpened, Cond.selects RX0 yX0_mayBeOpened yX0_mayBeOpened, Cond.code yX0_mayBeOpened cX0_mayBeOpened 2 (some .boolean), Cond.methodLink RX0 56 yX0_hasGate, Cond.instanceMethod yX0_hasGate, Cond.selects RX0 yX0_hasGate yX0_hasGate, Cond.code yX0_hasGate cX0_hasGate 2 (some .boolean), Cond.methodLink RX0 25 yX0_has, Cond.instanceMethod yX0_has, Cond.selects RX0 yX0_has yX0_has, Cond.code yX0_has cX0_has 2 (some .boolean), Cond.methodLink RX0 53 yX0_levelOf, Cond.instanceMethod yX0_levelOf, Cond.selects RX0 yX0_levelOf yX0_levelOf, Cond.code yX0_levelOf cX0_levelOf 2 (some .int), Cond.fieldLink RX0 15 "WaterConsent$Canal" "level" "[I", Cond.methodLink RX0 59 yX0_wantOf]
def wsX0_gatesThatMayBeOpened_r2 : List Cond := [Cond.instanceMethod yX0_wantOf, Cond.selects RX0 yX0_wantOf yX0_wantOf, Cond.code yX0_wantOf cX0_wantOf 3 (some .int), Cond.methodLink RX0 37 Lib.Math.max.name, Cond.static Lib.Math.max.name, Cond.initialized "java/lang/Math", Cond.code Lib.Math.max.name Lib.Math.max.code 2 (some .int), Cond.methodLink RX0 33 yX0_limitOf, Cond.instanceMethod yX0_limitOf, Cond.selects RX0 yX0_limitOf yX0_limitOf, Cond.code yX0_limitOf cX0_limitOf 2 (some .int), Cond.fieldLink RX0 18 "WaterConsent$Canal" "limit" "[I", Cond.methodLink RX0 43 yX0_kindOf, Cond.instanceMethod yX0_kindOf, Cond.selects RX0 yX0_kindOf yX0_kindOf, Cond.code yX0_kindOf cX0_kindOf 2 (some .int), Cond.fieldLink RX0 9 "WaterConsent$Canal" "kind" "[I"]
def wsX0_gatesThatMayBeOpened : List Cond := .code yX0_gatesThatMayBeOpened cX0_gatesThatMayBeOpened 3 (some .int) :: ((wsX0_gatesThatMayBeOpened_r1 ++ wsX0_gatesThatMayBeOpened_r2) ++ wsX00)
def wsX0_letThrough : List Cond := .code yX0_letThrough cX0_letThrough 2 none :: ([.methodLink RX0 53 yX0_levelOf, .instanceMethod yX0_levelOf, .selects RX0 yX0_levelOf yX0_levelOf, .initialized RX0, .code yX0_levelOf cX0_levelOf 2 (some .int), .fieldLink RX0 15 "WaterConsent$Canal" "level" "[I", .methodLink RX0 25 yX0_has, .instanceMethod yX0_has, .selects RX0 yX0_has yX0_has, .code yX0_has cX0_has 2 (some .boolean), .fieldLink RX0 21 "WaterConsent$Canal" "count" "I", .methodLink RX0 49 yX0_become, .instanceMethod yX0_become, .selects RX0 yX0_become yX0_become, .code yX0_become cX0_become 4 none, .fieldLink RX0 9 "WaterConsent$Canal" "kind" "[I", .fieldLink RX0 18 "WaterConsent$Canal" "limit" "[I"] ++ wsX00)
def wsX0_passNight_r1 : List Cond := [Cond.fieldLink RX0 46 "WaterConsent$Canal" "rain" "I", Cond.methodLink RX0 65 Lib.Math.min.name, Cond.static Lib.Math.min.name, Cond.initialized "java/lang/Math", Cond.code Lib.Math.min.name Lib.Math.min.code 2 (some .int), Cond.methodLink RX0 37 Lib.Math.max.name, Cond.static Lib.Math.max.name, Cond.code Lib.Math.max.name Lib.Math.max.code 2 (some .int), Cond.methodLink RX0 53 yX0_levelOf, Cond.instanceMethod yX0_levelOf, Cond.selects RX0 yX0_levelOf yX0_levelOf, Cond.initialized RX0, Cond.code yX0_levelOf cX0_levelOf 2 (some .int), Cond.fieldLink RX0 15 "WaterConsent$Canal" "level" "[I", Cond.methodLink RX0 25 yX0_has, Cond.instanceMethod yX0_has, Cond.selects RX0 yX0_has yX0_has, Cond.code yX0_has cX0_has 2 (some .boolean), Cond.fieldLink RX0 21 "WaterConsent$Canal" "count" "I", Cond.methodLink RX0 49 yX0_become, Cond.instanceMethod yX0_become, Cond.selects RX0 yX0_become yX0_become, Cond.code yX0_become cX0_become 4 none, Cond.fieldLink RX0 9 "WaterConsent$Canal" "kind" "[I"]
def wsX0_passNight_r2 : List Cond := [Cond.fieldLink RX0 18 "WaterConsent$Canal" "limit" "[I", Cond.methodLink RX0 29 yX0_lastReach, Cond.instanceMethod yX0_lastReach, Cond.selects RX0 yX0_lastReach yX0_lastReach, Cond.code yX0_lastReach cX0_lastReach 1 (some .int)]
def wsX0_passNight : List Cond := .code yX0_passNight cX0_passNight 1 none :: ((wsX0_passNight_r1 ++ wsX0_passNight_r2) ++ wsX00)
def wsX0_levelsTogether : List Cond := .code yX0_levelsTogether cX0_levelsTogether 3 (some .int) :: ([.fieldLink RX0 21 "WaterConsent$Canal" "count" "I", .methodLink RX0 53 yX0_levelOf, .instanceMethod yX0_levelOf, .selects RX0 yX0_levelOf yX0_levelOf, .initialized RX0, .code yX0_levelOf cX0_levelOf 2 (some .int), .fieldLink RX0 15 "WaterConsent$Canal" "level" "[I", .methodLink RX0 25 yX0_has, .instanceMethod yX0_has, .selects RX0 yX0_has yX0_has, .code yX0_has cX0_has 2 (some .boolean)] ++ wsX00)
def wsX1_init : List Cond := .code yX1_init cX1_init 1 none :: ([.methodLink RX1 3 objectInit, .instanceMethod objectInit, .code objectInit ⟨#[0xb1]⟩ 1 none, .arrayClass .int, .fieldLink RX1 9 "WaterConsent$Readings" "reach" "[I", .fieldLink RX1 15 "WaterConsent$Readings" "level" "[I", .arrayClass .boolean, .fieldLink RX1 18 "WaterConsent$Readings" "did" "[Z"] ++ wsX10)
def wsX1_note : List Cond := .code yX1_note cX1_note 4 (some .boolean) :: ([.fieldLink RX1 22 "WaterConsent$Readings" "count" "I", .fieldLink RX1 9 "WaterConsent$Readings" "reach" "[I", .fieldLink RX1 15 "WaterConsent$Readings" "level" "[I", .fieldLink RX1 18 "WaterConsent$Readings" "did" "[Z"] ++ wsX10)
def wsX1_areSoIn_r1 : List Cond := [Cond.fieldLink RX1 22 "WaterConsent$Readings" "count" "I", Cond.fieldLink RX1 15 "WaterConsent$Readings" "level" "[I", Cond.fieldLink RX1 9 "WaterConsent$Readings" "reach" "[I", Cond.fieldLink RX1 18 "WaterConsent$Readings" "did" "[Z", Cond.methodLink RX1 26 yX0_levelOf, Cond.instanceMethod yX0_levelOf, Cond.selects RX0 yX0_levelOf yX0_levelOf, Cond.initialized RX0, Cond.code yX0_levelOf cX0_levelOf 2 (some .int), Cond.fieldLink RX0 15 "WaterConsent$Canal" "level" "[I", Cond.methodLink RX0 25 yX0_has, Cond.instanceMethod yX0_has, Cond.selects RX0 yX0_has yX0_has, Cond.code yX0_has cX0_has 2 (some .boolean), Cond.fieldLink RX0 21 "WaterConsent$Canal" "count" "I", Cond.methodLink RX1 32 yX0_wantOf, Cond.instanceMethod yX0_wantOf, Cond.selects RX0 yX0_wantOf yX0_wantOf, Cond.code yX0_wantOf cX0_wantOf 3 (some .int), Cond.methodLink RX0 37 Lib.Math.max.name, Cond.static Lib.Math.max.name, Cond.initialized "java/lang/Math", Cond.code Lib.Math.max.name Lib.Math.max.code 2 (some .int), Cond.methodLink RX0 33 yX0_limitOf]
def wsX1_areSoIn_r2 : List Cond := [Cond.instanceMethod yX0_limitOf, Cond.selects RX0 yX0_limitOf yX0_limitOf, Cond.code yX0_limitOf cX0_limitOf 2 (some .int), Cond.fieldLink RX0 18 "WaterConsent$Canal" "limit" "[I", Cond.methodLink RX0 43 yX0_kindOf, Cond.instanceMethod yX0_kindOf, Cond.selects RX0 yX0_kindOf yX0_kindOf, Cond.code yX0_kindOf cX0_kindOf 2 (some .int), Cond.fieldLink RX0 9 "WaterConsent$Canal" "kind" "[I"]
def wsX1_areSoIn : List Cond := .code yX1_areSoIn cX1_areSoIn 4 (some .boolean) :: ((wsX1_areSoIn_r1 ++ wsX1_areSoIn_r2) ++ wsX10 ++ wsX00)
def wsX2_init : List Cond := .code yX2_init cX2_init 1 none :: ([.methodLink RX2 5 objectInit, .instanceMethod objectInit, .code objectInit ⟨#[0xb1]⟩ 1 none, .constant RX2 11 (40000), .arrayClass .int, .fieldLink RX2 12 "WaterConsent$Search" "cameBy" "[I", .fieldLink RX2 16 "WaterConsent$Search" "queue" "[I", .fieldLink RX2 19 "WaterConsent$Search" "row" "[I", .fieldLink RX2 22 "WaterConsent$Search" "length" "I", .constantLong RX2 26 (-1), .fieldLink RX2 28 "WaterConsent$Search" "known" "J"] ++ wsX20)
def wsX2_aimBoatAt : List Cond := .code yX2_aimBoatAt cX2_aimBoatAt 2 none :: ([.fieldLink RX2 32 "WaterConsent$Search" "byBoat" "Z", .fieldLink RX2 36 "WaterConsent$Search" "goalReach" "I", .fieldLink RX2 39 "WaterConsent$Search" "goalLevel" "I"] ++ wsX20)
def wsX2_aimAtLevel : List Cond := .code yX2_aimAtLevel cX2_aimAtLevel 3 none :: ([.fieldLink RX2 32 "WaterConsent$Search" "byBoat" "Z", .fieldLink RX2 36 "WaterConsent$Search" "goalReach" "I", .fieldLink RX2 39 "WaterConsent$Search" "goalLevel" "I"] ++ wsX20)
def wsX2_actAt : List Cond := .code yX2_actAt cX2_actAt 2 (some .int) :: ([.fieldLink RX2 22 "WaterConsent$Search" "length" "I", .fieldLink RX2 19 "WaterConsent$Search" "row" "[I"] ++ wsX20)
def wsX2_weight : List Cond := .code yX2_weight cX2_weight 1 (some .int) :: ([])
def wsX2_keyOf : List Cond := .code yX2_keyOf cX2_keyOf 4 (some .long) :: ([.constantLong RX2 75 (10000), .fieldLink RX2 54 "WaterConsent$Search" "wants" "I", .constantLong RX2 77 (4), .fieldLink RX2 53 "WaterConsent$Search" "rain" "I", .fieldLink RX2 48 "WaterConsent$Search" "lastReach" "I", .constantLong RX2 79 (2), .fieldLink RX2 32 "WaterConsent$Search" "byBoat" "Z", .fieldLink RX2 36 "WaterConsent$Search" "goalReach" "I", .constantLong RX2 81 (10), .fieldLink RX2 39 "WaterConsent$Search" "goalLevel" "I"] ++ wsX20)
def wsX2_isState : List Cond := .code yX2_isState cX2_isState 2 (some .boolean) :: ([.fieldLink RX2 12 "WaterConsent$Search" "cameBy" "[I"] ++ wsX20)
def wsX2_forgetStates : List Cond := .code yX2_forgetStates cX2_forgetStates 3 none :: ([.fieldLink RX2 94 "WaterConsent$Search" "tail" "I", .fieldLink RX2 16 "WaterConsent$Search" "queue" "[I", .fieldLink RX2 12 "WaterConsent$Search" "cameBy" "[I", .methodLink RX2 103 yX2_isState, .instanceMethod yX2_isState, .selects RX2 yX2_isState yX2_isState, .initialized RX2, .code yX2_isState cX2_isState 2 (some .boolean)] ++ wsX20)
def wsX2_digit : List Cond := .code yX2_digit cX2_digit 2 (some .int) :: ([])
def wsX2_isGoal : List Cond := .code yX2_isGoal cX2_isGoal 2 (some .boolean) :: ([.fieldLink RX2 32 "WaterConsent$Search" "byBoat" "Z", .fieldLink RX2 36 "WaterConsent$Search" "goalReach" "I", .fieldLink RX2 39 "WaterConsent$Search" "goalLevel" "I", .methodLink RX2 113 yX2_digit, .static yX2_digit, .initialized RX2, .code yX2_digit cX2_digit 2 (some .int)] ++ wsX20)
def wsX2_comeTo : List Cond := .code yX2_comeTo cX2_comeTo 4 (some .boolean) :: ([.fieldLink RX2 12 "WaterConsent$Search" "cameBy" "[I", .fieldLink RX2 94 "WaterConsent$Search" "tail" "I", .fieldLink RX2 16 "WaterConsent$Search" "queue" "[I", .methodLink RX2 103 yX2_isState, .instanceMethod yX2_isState, .selects RX2 yX2_isState yX2_isState, .initialized RX2, .code yX2_isState cX2_isState 2 (some .boolean)] ++ wsX20)
def wsX2_behindNight : List Cond := .code yX2_behindNight cX2_behindNight 4 (some .int) :: ([.fieldLink RX2 53 "WaterConsent$Search" "rain" "I", .methodLink RX2 116 Lib.Math.min.name, .static Lib.Math.min.name, .initialized "java/lang/Math", .code Lib.Math.min.name Lib.Math.min.code 2 (some .int), .fieldLink RX2 48 "WaterConsent$Search" "lastReach" "I", .methodLink RX2 113 yX2_digit, .static yX2_digit, .initialized RX2, .code yX2_digit cX2_digit 2 (some .int), .methodLink RX2 61 yX2_weight, .static yX2_weight, .code yX2_weight cX2_weight 1 (some .int)] ++ wsX20)
def wsX2_behindOpening : List Cond := .code yX2_behindOpening cX2_behindOpening 4 (some .int) :: ([.fieldLink RX2 54 "WaterConsent$Search" "wants" "I", .methodLink RX2 113 yX2_digit, .static yX2_digit, .initialized RX2, .code yX2_digit cX2_digit 2 (some .int), .methodLink RX2 61 yX2_weight, .static yX2_weight, .code yX2_weight cX2_weight 1 (some .int)] ++ wsX20)
def wsX2_goOnFrom_r1 : List Cond := [Cond.fieldLink RX2 48 "WaterConsent$Search" "lastReach" "I", Cond.methodLink RX2 106 yX2_behindNight, Cond.instanceMethod yX2_behindNight, Cond.selects RX2 yX2_behindNight yX2_behindNight, Cond.initialized RX2, Cond.code yX2_behindNight cX2_behindNight 4 (some .int), Cond.fieldLink RX2 53 "WaterConsent$Search" "rain" "I", Cond.methodLink RX2 116 Lib.Math.min.name, Cond.static Lib.Math.min.name, Cond.initialized "java/lang/Math", Cond.code Lib.Math.min.name Lib.Math.min.code 2 (some .int), Cond.methodLink RX2 113 yX2_digit, Cond.static yX2_digit, Cond.code yX2_digit cX2_digit 2 (some .int), Cond.methodLink RX2 61 yX2_weight, Cond.static yX2_weight, Cond.code yX2_weight cX2_weight 1 (some .int), Cond.methodLink RX2 109 yX2_behindOpening, Cond.instanceMethod yX2_behindOpening, Cond.selects RX2 yX2_behindOpening yX2_behindOpening, Cond.code yX2_behindOpening cX2_behindOpening 4 (some .int), Cond.fieldLink RX2 54 "WaterConsent$Search" "wants" "I", Cond.methodLink RX2 90 yX2_comeTo, Cond.instanceMethod yX2_comeTo]
def wsX2_goOnFrom_r2 : List Cond := [Cond.selects RX2 yX2_comeTo yX2_comeTo, Cond.code yX2_comeTo cX2_comeTo 4 (some .boolean), Cond.fieldLink RX2 12 "WaterConsent$Search" "cameBy" "[I", Cond.fieldLink RX2 94 "WaterConsent$Search" "tail" "I", Cond.fieldLink RX2 16 "WaterConsent$Search" "queue" "[I", Cond.methodLink RX2 103 yX2_isState, Cond.instanceMethod yX2_isState, Cond.selects RX2 yX2_isState yX2_isState, Cond.code yX2_isState cX2_isState 2 (some .boolean), Cond.methodLink RX2 86 yX2_isGoal, Cond.instanceMethod yX2_isGoal, Cond.selects RX2 yX2_isGoal yX2_isGoal, Cond.code yX2_isGoal cX2_isGoal 2 (some .boolean), Cond.fieldLink RX2 32 "WaterConsent$Search" "byBoat" "Z", Cond.fieldLink RX2 36 "WaterConsent$Search" "goalReach" "I", Cond.fieldLink RX2 39 "WaterConsent$Search" "goalLevel" "I"]
def wsX2_goOnFrom : List Cond := .code yX2_goOnFrom cX2_goOnFrom 4 (some .int) :: ((wsX2_goOnFrom_r1 ++ wsX2_goOnFrom_r2) ++ wsX20)
def wsX2_keepRowTo : List Cond := .code yX2_keepRowTo cX2_keepRowTo 5 none :: ([.fieldLink RX2 22 "WaterConsent$Search" "length" "I", .fieldLink RX2 19 "WaterConsent$Search" "row" "[I", .methodLink RX2 116 Lib.Math.min.name, .static Lib.Math.min.name, .initialized "java/lang/Math", .code Lib.Math.min.name Lib.Math.min.code 2 (some .int), .fieldLink RX2 12 "WaterConsent$Search" "cameBy" "[I", .methodLink RX2 103 yX2_isState, .instanceMethod yX2_isState, .selects RX2 yX2_isState yX2_isState, .initialized RX2, .code yX2_isState cX2_isState 2 (some .boolean)] ++ wsX20)
def wsX2_find_r1 : List Cond := [Cond.fieldLink RX2 22 "WaterConsent$Search" "length" "I", Cond.fieldLink RX2 94 "WaterConsent$Search" "tail" "I", Cond.fieldLink RX2 16 "WaterConsent$Search" "queue" "[I", Cond.methodLink RX2 83 yX2_forgetStates, Cond.instanceMethod yX2_forgetStates, Cond.selects RX2 yX2_forgetStates yX2_forgetStates, Cond.initialized RX2, Cond.code yX2_forgetStates cX2_forgetStates 3 none, Cond.fieldLink RX2 12 "WaterConsent$Search" "cameBy" "[I", Cond.methodLink RX2 103 yX2_isState, Cond.instanceMethod yX2_isState, Cond.selects RX2 yX2_isState yX2_isState, Cond.code yX2_isState cX2_isState 2 (some .boolean), Cond.methodLink RX2 86 yX2_isGoal, Cond.instanceMethod yX2_isGoal, Cond.selects RX2 yX2_isGoal yX2_isGoal, Cond.code yX2_isGoal cX2_isGoal 2 (some .boolean), Cond.fieldLink RX2 32 "WaterConsent$Search" "byBoat" "Z", Cond.fieldLink RX2 36 "WaterConsent$Search" "goalReach" "I", Cond.fieldLink RX2 39 "WaterConsent$Search" "goalLevel" "I", Cond.methodLink RX2 113 yX2_digit, Cond.static yX2_digit, Cond.code yX2_digit cX2_digit 2 (some .int), Cond.methodLink RX2 90 yX2_comeTo]
def wsX2_find_r2 : List Cond := [Cond.instanceMethod yX2_comeTo, Cond.selects RX2 yX2_comeTo yX2_comeTo, Cond.code yX2_comeTo cX2_comeTo 4 (some .boolean), Cond.methodLink RX2 97 yX2_goOnFrom, Cond.instanceMethod yX2_goOnFrom, Cond.selects RX2 yX2_goOnFrom yX2_goOnFrom, Cond.code yX2_goOnFrom cX2_goOnFrom 4 (some .int), Cond.fieldLink RX2 48 "WaterConsent$Search" "lastReach" "I", Cond.methodLink RX2 106 yX2_behindNight, Cond.instanceMethod yX2_behindNight, Cond.selects RX2 yX2_behindNight yX2_behindNight, Cond.code yX2_behindNight cX2_behindNight 4 (some .int), Cond.fieldLink RX2 53 "WaterConsent$Search" "rain" "I", Cond.methodLink RX2 116 Lib.Math.min.name, Cond.static Lib.Math.min.name, Cond.initialized "java/lang/Math", Cond.code Lib.Math.min.name Lib.Math.min.code 2 (some .int), Cond.methodLink RX2 61 yX2_weight, Cond.static yX2_weight, Cond.code yX2_weight cX2_weight 1 (some .int), Cond.methodLink RX2 109 yX2_behindOpening, Cond.instanceMethod yX2_behindOpening, Cond.selects RX2 yX2_behindOpening yX2_behindOpening, Cond.code yX2_behindOpening cX2_behindOpening 4 (some .int)]
def wsX2_find_r3 : List Cond := [Cond.fieldLink RX2 54 "WaterConsent$Search" "wants" "I", Cond.methodLink RX2 100 yX2_keepRowTo, Cond.instanceMethod yX2_keepRowTo, Cond.selects RX2 yX2_keepRowTo yX2_keepRowTo, Cond.code yX2_keepRowTo cX2_keepRowTo 5 none, Cond.fieldLink RX2 19 "WaterConsent$Search" "row" "[I"]
def wsX2_find : List Cond := .code yX2_find cX2_find 6 none :: ((wsX2_find_r1 ++ (wsX2_find_r2 ++ wsX2_find_r3)) ++ wsX20)
def wsX2_look_r1 : List Cond := [Cond.fieldLink RX2 48 "WaterConsent$Search" "lastReach" "I", Cond.fieldLink RX2 50 "WaterConsent$Canal" "rain" "I", Cond.fieldLink RX2 53 "WaterConsent$Search" "rain" "I", Cond.fieldLink RX2 54 "WaterConsent$Search" "wants" "I", Cond.fieldLink RX2 28 "WaterConsent$Search" "known" "J", Cond.methodLink RX2 42 yX0_lastReach, Cond.instanceMethod yX0_lastReach, Cond.selects RX0 yX0_lastReach yX0_lastReach, Cond.initialized RX0, Cond.code yX0_lastReach cX0_lastReach 1 (some .int), Cond.fieldLink RX0 21 "WaterConsent$Canal" "count" "I", Cond.methodLink RX2 57 yX0_levelOf, Cond.instanceMethod yX0_levelOf, Cond.selects RX0 yX0_levelOf yX0_levelOf, Cond.code yX0_levelOf cX0_levelOf 2 (some .int), Cond.fieldLink RX0 15 "WaterConsent$Canal" "level" "[I", Cond.methodLink RX0 25 yX0_has, Cond.instanceMethod yX0_has, Cond.selects RX0 yX0_has yX0_has, Cond.code yX0_has cX0_has 2 (some .boolean), Cond.methodLink RX2 61 yX2_weight, Cond.static yX2_weight, Cond.initialized RX2, Cond.code yX2_weight cX2_weight 1 (some .int)]
def wsX2_look_r2 : List Cond := [Cond.methodLink RX2 64 yX0_wantOf, Cond.instanceMethod yX0_wantOf, Cond.selects RX0 yX0_wantOf yX0_wantOf, Cond.code yX0_wantOf cX0_wantOf 3 (some .int), Cond.methodLink RX0 37 Lib.Math.max.name, Cond.static Lib.Math.max.name, Cond.initialized "java/lang/Math", Cond.code Lib.Math.max.name Lib.Math.max.code 2 (some .int), Cond.methodLink RX0 33 yX0_limitOf, Cond.instanceMethod yX0_limitOf, Cond.selects RX0 yX0_limitOf yX0_limitOf, Cond.code yX0_limitOf cX0_limitOf 2 (some .int), Cond.fieldLink RX0 18 "WaterConsent$Canal" "limit" "[I", Cond.methodLink RX0 43 yX0_kindOf, Cond.instanceMethod yX0_kindOf, Cond.selects RX0 yX0_kindOf yX0_kindOf, Cond.code yX0_kindOf cX0_kindOf 2 (some .int), Cond.fieldLink RX0 9 "WaterConsent$Canal" "kind" "[I", Cond.methodLink RX2 67 yX2_keyOf, Cond.instanceMethod yX2_keyOf, Cond.selects RX2 yX2_keyOf yX2_keyOf, Cond.code yX2_keyOf cX2_keyOf 4 (some .long), Cond.constantLong RX2 75 (10000), Cond.constantLong RX2 77 (4)]
def wsX2_look_r3 : List Cond := [Cond.constantLong RX2 79 (2), Cond.fieldLink RX2 32 "WaterConsent$Search" "byBoat" "Z", Cond.fieldLink RX2 36 "WaterConsent$Search" "goalReach" "I", Cond.constantLong RX2 81 (10), Cond.fieldLink RX2 39 "WaterConsent$Search" "goalLevel" "I", Cond.methodLink RX2 71 yX2_find, Cond.instanceMethod yX2_find, Cond.selects RX2 yX2_find yX2_find, Cond.code yX2_find cX2_find 6 none, Cond.fieldLink RX2 22 "WaterConsent$Search" "length" "I", Cond.fieldLink RX2 94 "WaterConsent$Search" "tail" "I", Cond.fieldLink RX2 16 "WaterConsent$Search" "queue" "[I", Cond.methodLink RX2 83 yX2_forgetStates, Cond.instanceMethod yX2_forgetStates, Cond.selects RX2 yX2_forgetStates yX2_forgetStates, Cond.code yX2_forgetStates cX2_forgetStates 3 none, Cond.fieldLink RX2 12 "WaterConsent$Search" "cameBy" "[I", Cond.methodLink RX2 103 yX2_isState, Cond.instanceMethod yX2_isState, Cond.selects RX2 yX2_isState yX2_isState, Cond.code yX2_isState cX2_isState 2 (some .boolean), Cond.methodLink RX2 86 yX2_isGoal, Cond.instanceMethod yX2_isGoal, Cond.selects RX2 yX2_isGoal yX2_isGoal]
def wsX2_look_r4 : List Cond := [Cond.code yX2_isGoal cX2_isGoal 2 (some .boolean), Cond.methodLink RX2 113 yX2_digit, Cond.static yX2_digit, Cond.code yX2_digit cX2_digit 2 (some .int), Cond.methodLink RX2 90 yX2_comeTo, Cond.instanceMethod yX2_comeTo, Cond.selects RX2 yX2_comeTo yX2_comeTo, Cond.code yX2_comeTo cX2_comeTo 4 (some .boolean), Cond.methodLink RX2 97 yX2_goOnFrom, Cond.instanceMethod yX2_goOnFrom, Cond.selects RX2 yX2_goOnFrom yX2_goOnFrom, Cond.code yX2_goOnFrom cX2_goOnFrom 4 (some .int), Cond.methodLink RX2 106 yX2_behindNight, Cond.instanceMethod yX2_behindNight, Cond.selects RX2 yX2_behindNight yX2_behindNight, Cond.code yX2_behindNight cX2_behindNight 4 (some .int), Cond.methodLink RX2 116 Lib.Math.min.name, Cond.static Lib.Math.min.name, Cond.code Lib.Math.min.name Lib.Math.min.code 2 (some .int), Cond.methodLink RX2 109 yX2_behindOpening, Cond.instanceMethod yX2_behindOpening, Cond.selects RX2 yX2_behindOpening yX2_behindOpening, Cond.code yX2_behindOpening cX2_behindOpening 4 (some .int), Cond.methodLink RX2 100 yX2_keepRowTo]
def wsX2_look_r5 : List Cond := [Cond.instanceMethod yX2_keepRowTo, Cond.selects RX2 yX2_keepRowTo yX2_keepRowTo, Cond.code yX2_keepRowTo cX2_keepRowTo 5 none, Cond.fieldLink RX2 19 "WaterConsent$Search" "row" "[I"]
def wsX2_look : List Cond := .code yX2_look cX2_look 6 none :: ((wsX2_look_r1 ++ (wsX2_look_r2 ++ (wsX2_look_r3 ++ (wsX2_look_r4 ++ wsX2_look_r5)))) ++ wsX20 ++ wsX00)
def wsX3_init : List Cond := .code yX3_init cX3_init 1 none :: ([.methodLink RX3 3 objectInit, .instanceMethod objectInit, .code objectInit ⟨#[0xb1]⟩ 1 none, .arrayClass .int, .fieldLink RX3 9 "WaterConsent$Sheet" "cells" "[I"] ++ wsX30)
def wsJ7_fill_53178 : List Cond := .code yJ7_fill_53178 cJ7_fill_53178 4 none :: ([])
def wsX3_becomeNew : List Cond := .code yX3_becomeNew cX3_becomeNew 3 none :: ([.fieldLink RX3 15 "WaterConsent$Sheet" "there" "Z", .fieldLink RX3 19 "WaterConsent$Sheet" "lane" "I", .fieldLink RX3 23 "WaterConsent$Sheet" "count" "I", .fieldLink RX3 9 "WaterConsent$Sheet" "cells" "[I", .methodLink RX3 26 yJ7_fill_53178, .static yJ7_fill_53178, .initialized RJ7, .code yJ7_fill_53178 cJ7_fill_53178 4 none] ++ wsX30)
def wsX3_hasCells : List Cond := .code yX3_hasCells cX3_hasCells 3 (some .boolean) :: ([.fieldLink RX3 23 "WaterConsent$Sheet" "count" "I", .fieldLink RX3 9 "WaterConsent$Sheet" "cells" "[I"] ++ wsX30)
def wsX3_faultOf : List Cond := .code yX3_faultOf cX3_faultOf 4 (some .int) :: ([.fieldLink RX3 15 "WaterConsent$Sheet" "there" "Z", .fieldLink RX3 19 "WaterConsent$Sheet" "lane" "I", .methodLink RX3 32 yX3_hasCells, .instanceMethod yX3_hasCells, .selects RX3 yX3_hasCells yX3_hasCells, .initialized RX3, .code yX3_hasCells cX3_hasCells 3 (some .boolean), .fieldLink RX3 23 "WaterConsent$Sheet" "count" "I", .fieldLink RX3 9 "WaterConsent$Sheet" "cells" "[I"] ++ wsX30)
def wsX3_cellAt : List Cond := .code yX3_cellAt cX3_cellAt 2 (some .int) :: ([.fieldLink RX3 23 "WaterConsent$Sheet" "count" "I", .fieldLink RX3 9 "WaterConsent$Sheet" "cells" "[I"] ++ wsX30)
def wsX3_cutToLane : List Cond := .code yX3_cutToLane cX3_cutToLane 2 (some .int) :: ([.fieldLink RX3 19 "WaterConsent$Sheet" "lane" "I"] ++ wsX30)
def wsX3_setCell : List Cond := .code yX3_setCell cX3_setCell 3 none :: ([.fieldLink RX3 23 "WaterConsent$Sheet" "count" "I", .fieldLink RX3 9 "WaterConsent$Sheet" "cells" "[I", .methodLink RX3 36 yX3_cutToLane, .instanceMethod yX3_cutToLane, .selects RX3 yX3_cutToLane yX3_cutToLane, .initialized RX3, .code yX3_cutToLane cX3_cutToLane 2 (some .int), .fieldLink RX3 19 "WaterConsent$Sheet" "lane" "I"] ++ wsX30)
def wsX4_goesOn : List Cond := .code yX4_goesOn cX4_goesOn 2 (some .boolean) :: ([])
def wsX4_firstFault : List Cond := .code yX4_firstFault cX4_firstFault 5 (some .int) :: ([.methodLink RX4 11 Lib.Math.min.name, .static Lib.Math.min.name, .initialized "java/lang/Math", .code Lib.Math.min.name Lib.Math.min.code 2 (some .int), .methodLink RX4 17 yX3_cellAt, .instanceMethod yX3_cellAt, .selects RX3 yX3_cellAt yX3_cellAt, .initialized RX3, .code yX3_cellAt cX3_cellAt 2 (some .int), .fieldLink RX3 23 "WaterConsent$Sheet" "count" "I", .fieldLink RX3 9 "WaterConsent$Sheet" "cells" "[I", .methodLink RX4 23 yX4_goesOn, .static yX4_goesOn, .initialized RX4, .code yX4_goesOn cX4_goesOn 2 (some .boolean)] ++ wsX30)
def wsX4_kindOfLetter : List Cond := .code yX4_kindOfLetter cX4_kindOfLetter 1 (some .int) :: ([])
def wsX4_take_r1 : List Cond := [Cond.fieldLink RX4 27 "WaterConsent$Canal" "rain" "I", Cond.fieldLink RX4 33 "WaterConsent$Canal" "count" "I", Cond.methodLink RX4 17 yX3_cellAt, Cond.instanceMethod yX3_cellAt, Cond.selects RX3 yX3_cellAt yX3_cellAt, Cond.initialized RX3, Cond.code yX3_cellAt cX3_cellAt 2 (some .int), Cond.fieldLink RX3 23 "WaterConsent$Sheet" "count" "I", Cond.fieldLink RX3 9 "WaterConsent$Sheet" "cells" "[I", Cond.methodLink RX4 36 yX4_kindOfLetter, Cond.static yX4_kindOfLetter, Cond.initialized RX4, Cond.code yX4_kindOfLetter cX4_kindOfLetter 1 (some .int), Cond.methodLink RX4 39 yX0_become, Cond.instanceMethod yX0_become, Cond.selects RX0 yX0_become yX0_become, Cond.initialized RX0, Cond.code yX0_become cX0_become 4 none, Cond.fieldLink RX0 9 "WaterConsent$Canal" "kind" "[I", Cond.fieldLink RX0 15 "WaterConsent$Canal" "level" "[I", Cond.fieldLink RX0 18 "WaterConsent$Canal" "limit" "[I", Cond.methodLink RX0 25 yX0_has, Cond.instanceMethod yX0_has, Cond.selects RX0 yX0_has yX0_has]
def wsX4_take_r2 : List Cond := [Cond.code yX0_has cX0_has 2 (some .boolean), Cond.fieldLink RX0 21 "WaterConsent$Canal" "count" "I"]
def wsX4_take : List Cond := .code yX4_take cX4_take 6 none :: ((wsX4_take_r1 ++ wsX4_take_r2) ++ wsX00 ++ wsX30)
def wsX5_init_r1 : List Cond := [Cond.methodLink RX5 3 objectInit, Cond.instanceMethod objectInit, Cond.code objectInit ⟨#[0xb1]⟩ 1 none, Cond.classLink RX5 11 RX3, Cond.fieldLink RX5 13 "WaterConsent" "sheets" "[LWaterConsent$Sheet;", Cond.classLink RX5 17 RX0, Cond.instantiable RX0 5, Cond.initialized RX0, Cond.fieldLink RX5 20 "WaterConsent" "canal" "LWaterConsent$Canal;", Cond.fieldLink RX5 24 "WaterConsent" "trial" "LWaterConsent$Canal;", Cond.classLink RX5 27 RX1, Cond.instantiable RX1 4, Cond.initialized RX1, Cond.fieldLink RX5 30 "WaterConsent" "readings" "LWaterConsent$Readings;", Cond.classLink RX5 34 RX2, Cond.instantiable RX2 12, Cond.initialized RX2, Cond.fieldLink RX5 37 "WaterConsent" "search" "LWaterConsent$Search;", Cond.instantiable RX3 4, Cond.initialized RX3, Cond.instanceMethod yX0_init, Cond.code yX0_init cX0_init 1 none, Cond.methodLink RX0 3 objectInit, Cond.arrayClass .int]
def wsX5_init_r2 : List Cond := [Cond.fieldLink RX0 9 "WaterConsent$Canal" "kind" "[I", Cond.fieldLink RX0 15 "WaterConsent$Canal" "level" "[I", Cond.fieldLink RX0 18 "WaterConsent$Canal" "limit" "[I", Cond.instanceMethod yX1_init, Cond.code yX1_init cX1_init 1 none, Cond.methodLink RX1 3 objectInit, Cond.fieldLink RX1 9 "WaterConsent$Readings" "reach" "[I", Cond.fieldLink RX1 15 "WaterConsent$Readings" "level" "[I", Cond.arrayClass .boolean, Cond.fieldLink RX1 18 "WaterConsent$Readings" "did" "[Z", Cond.instanceMethod yX2_init, Cond.code yX2_init cX2_init 1 none, Cond.methodLink RX2 5 objectInit, Cond.constant RX2 11 (40000), Cond.fieldLink RX2 12 "WaterConsent$Search" "cameBy" "[I", Cond.fieldLink RX2 16 "WaterConsent$Search" "queue" "[I", Cond.fieldLink RX2 19 "WaterConsent$Search" "row" "[I", Cond.fieldLink RX2 22 "WaterConsent$Search" "length" "I", Cond.constantLong RX2 26 (-1), Cond.fieldLink RX2 28 "WaterConsent$Search" "known" "J", Cond.instanceMethod yX3_init, Cond.code yX3_init cX3_init 1 none, Cond.methodLink RX3 3 objectInit, Cond.fieldLink RX3 9 "WaterConsent$Sheet" "cells" "[I"]
def wsX5_init : List Cond := .code yX5_init cX5_init 2 none :: ((wsX5_init_r1 ++ wsX5_init_r2) ++ wsX50 ++ wsX00 ++ wsX10 ++ wsX20 ++ wsX30)
def wsX5_sheetAt : List Cond := .code yX5_sheetAt cX5_sheetAt 2 (some (.object "WaterConsent$Sheet")) :: ([.fieldLink RX5 13 "WaterConsent" "sheets" "[LWaterConsent$Sheet;"] ++ wsX50)
def wsX5_isLane : List Cond := .code yX5_isLane cX5_isLane 1 (some .boolean) :: ([])
def wsX5_faulted : List Cond := .code yX5_faulted cX5_faulted 2 (some .int) :: ([.fieldLink RX5 42 "WaterConsent" "fault" "I"] ++ wsX50)
def wsX5_canal_r1 : List Cond := [Cond.fieldLink RX5 42 "WaterConsent" "fault" "I", Cond.fieldLink RX5 20 "WaterConsent" "canal" "LWaterConsent$Canal;", Cond.fieldLink RX5 30 "WaterConsent" "readings" "LWaterConsent$Readings;", Cond.fieldLink RX5 72 "WaterConsent$Readings" "count" "I", Cond.fieldLink RX5 75 "WaterConsent$Canal" "count" "I", Cond.methodLink RX5 46 yX5_sheetAt, Cond.instanceMethod yX5_sheetAt, Cond.selects RX5 yX5_sheetAt yX5_sheetAt, Cond.initialized RX5, Cond.code yX5_sheetAt cX5_sheetAt 2 (some (.object "WaterConsent$Sheet")), Cond.fieldLink RX5 13 "WaterConsent" "sheets" "[LWaterConsent$Sheet;", Cond.methodLink RX5 50 yX5_isLane, Cond.static yX5_isLane, Cond.code yX5_isLane cX5_isLane 1 (some .boolean), Cond.methodLink RX5 54 yX3_faultOf, Cond.instanceMethod yX3_faultOf, Cond.selects RX3 yX3_faultOf yX3_faultOf, Cond.initialized RX3, Cond.code yX3_faultOf cX3_faultOf 4 (some .int), Cond.fieldLink RX3 15 "WaterConsent$Sheet" "there" "Z", Cond.fieldLink RX3 19 "WaterConsent$Sheet" "lane" "I", Cond.methodLink RX3 32 yX3_hasCells, Cond.instanceMethod yX3_hasCells, Cond.selects RX3 yX3_hasCells yX3_hasCells]
def wsX5_canal_r2 : List Cond := [Cond.code yX3_hasCells cX3_hasCells 3 (some .boolean), Cond.fieldLink RX3 23 "WaterConsent$Sheet" "count" "I", Cond.fieldLink RX3 9 "WaterConsent$Sheet" "cells" "[I", Cond.methodLink RX5 58 yX5_faulted, Cond.instanceMethod yX5_faulted, Cond.selects RX5 yX5_faulted yX5_faulted, Cond.code yX5_faulted cX5_faulted 2 (some .int), Cond.methodLink RX5 62 yX4_firstFault, Cond.static yX4_firstFault, Cond.initialized RX4, Cond.code yX4_firstFault cX4_firstFault 5 (some .int), Cond.methodLink RX4 11 Lib.Math.min.name, Cond.static Lib.Math.min.name, Cond.initialized "java/lang/Math", Cond.code Lib.Math.min.name Lib.Math.min.code 2 (some .int), Cond.methodLink RX4 17 yX3_cellAt, Cond.instanceMethod yX3_cellAt, Cond.selects RX3 yX3_cellAt yX3_cellAt, Cond.code yX3_cellAt cX3_cellAt 2 (some .int), Cond.methodLink RX4 23 yX4_goesOn, Cond.static yX4_goesOn, Cond.code yX4_goesOn cX4_goesOn 2 (some .boolean), Cond.methodLink RX5 68 yX4_take, Cond.static yX4_take]
def wsX5_canal_r3 : List Cond := [Cond.code yX4_take cX4_take 6 none, Cond.fieldLink RX4 27 "WaterConsent$Canal" "rain" "I", Cond.fieldLink RX4 33 "WaterConsent$Canal" "count" "I", Cond.methodLink RX4 36 yX4_kindOfLetter, Cond.static yX4_kindOfLetter, Cond.code yX4_kindOfLetter cX4_kindOfLetter 1 (some .int), Cond.methodLink RX4 39 yX0_become, Cond.instanceMethod yX0_become, Cond.selects RX0 yX0_become yX0_become, Cond.initialized RX0, Cond.code yX0_become cX0_become 4 none, Cond.fieldLink RX0 9 "WaterConsent$Canal" "kind" "[I", Cond.fieldLink RX0 15 "WaterConsent$Canal" "level" "[I", Cond.fieldLink RX0 18 "WaterConsent$Canal" "limit" "[I", Cond.methodLink RX0 25 yX0_has, Cond.instanceMethod yX0_has, Cond.selects RX0 yX0_has yX0_has, Cond.code yX0_has cX0_has 2 (some .boolean), Cond.fieldLink RX0 21 "WaterConsent$Canal" "count" "I"]
def wsX5_canal : List Cond := .code yX5_canal cX5_canal 8 (some .int) :: ((wsX5_canal_r1 ++ (wsX5_canal_r2 ++ wsX5_canal_r3)) ++ wsX50 ++ wsX10 ++ wsX00 ++ wsX30)
def wsX5_ofReach_r1 : List Cond := [Cond.fieldLink RX5 20 "WaterConsent" "canal" "LWaterConsent$Canal;", Cond.methodLink RX5 76 yX0_has, Cond.instanceMethod yX0_has, Cond.selects RX0 yX0_has yX0_has, Cond.initialized RX0, Cond.code yX0_has cX0_has 2 (some .boolean), Cond.fieldLink RX0 21 "WaterConsent$Canal" "count" "I", Cond.methodLink RX5 79 yX0_kindOf, Cond.instanceMethod yX0_kindOf, Cond.selects RX0 yX0_kindOf yX0_kindOf, Cond.code yX0_kindOf cX0_kindOf 2 (some .int), Cond.fieldLink RX0 9 "WaterConsent$Canal" "kind" "[I", Cond.methodLink RX0 25 yX0_has, Cond.methodLink RX5 82 yX0_levelOf, Cond.instanceMethod yX0_levelOf, Cond.selects RX0 yX0_levelOf yX0_levelOf, Cond.code yX0_levelOf cX0_levelOf 2 (some .int), Cond.fieldLink RX0 15 "WaterConsent$Canal" "level" "[I", Cond.methodLink RX5 85 yX0_limitOf, Cond.instanceMethod yX0_limitOf, Cond.selects RX0 yX0_limitOf yX0_limitOf, Cond.code yX0_limitOf cX0_limitOf 2 (some .int), Cond.fieldLink RX0 18 "WaterConsent$Canal" "limit" "[I", Cond.methodLink RX5 88 yX0_wantOf]
def wsX5_ofReach_r2 : List Cond := [Cond.instanceMethod yX0_wantOf, Cond.selects RX0 yX0_wantOf yX0_wantOf, Cond.code yX0_wantOf cX0_wantOf 3 (some .int), Cond.methodLink RX0 37 Lib.Math.max.name, Cond.static Lib.Math.max.name, Cond.initialized "java/lang/Math", Cond.code Lib.Math.max.name Lib.Math.max.code 2 (some .int), Cond.methodLink RX0 33 yX0_limitOf, Cond.methodLink RX0 43 yX0_kindOf]
def wsX5_ofReach : List Cond := .code yX5_ofReach cX5_ofReach 3 (some .int) :: ((wsX5_ofReach_r1 ++ wsX5_ofReach_r2) ++ wsX50 ++ wsX00)
def wsX5_isFrom0To : List Cond := .code yX5_isFrom0To cX5_isFrom0To 2 (some .boolean) :: ([])
def wsX5_fill : List Cond := .code yX5_fill cX5_fill 4 (some .int) :: ([.fieldLink RX5 20 "WaterConsent" "canal" "LWaterConsent$Canal;", .methodLink RX5 76 yX0_has, .instanceMethod yX0_has, .selects RX0 yX0_has yX0_has, .initialized RX0, .code yX0_has cX0_has 2 (some .boolean), .fieldLink RX0 21 "WaterConsent$Canal" "count" "I", .methodLink RX5 91 yX5_isFrom0To, .static yX5_isFrom0To, .initialized RX5, .code yX5_isFrom0To cX5_isFrom0To 2 (some .boolean), .methodLink RX5 82 yX0_levelOf, .instanceMethod yX0_levelOf, .selects RX0 yX0_levelOf yX0_levelOf, .code yX0_levelOf cX0_levelOf 2 (some .int), .fieldLink RX0 15 "WaterConsent$Canal" "level" "[I", .methodLink RX0 25 yX0_has, .methodLink RX5 95 yX0_become, .instanceMethod yX0_become, .selects RX0 yX0_become yX0_become, .code yX0_become cX0_become 4 none, .fieldLink RX0 9 "WaterConsent$Canal" "kind" "[I", .fieldLink RX0 18 "WaterConsent$Canal" "limit" "[I"] ++ wsX50 ++ wsX00)
def wsX5_rain : List Cond := .code yX5_rain cX5_rain 3 (some .int) :: ([.fieldLink RX5 20 "WaterConsent" "canal" "LWaterConsent$Canal;", .fieldLink RX5 103 "WaterConsent$Canal" "rain" "I", .methodLink RX5 91 yX5_isFrom0To, .static yX5_isFrom0To, .initialized RX5, .code yX5_isFrom0To cX5_isFrom0To 2 (some .boolean), .methodLink RX5 99 yX0_isNone, .instanceMethod yX0_isNone, .selects RX0 yX0_isNone yX0_isNone, .initialized RX0, .code yX0_isNone cX0_isNone 1 (some .boolean), .fieldLink RX0 21 "WaterConsent$Canal" "count" "I"] ++ wsX50 ++ wsX00)
def wsX5_gates_r1 : List Cond := [Cond.fieldLink RX5 20 "WaterConsent" "canal" "LWaterConsent$Canal;", Cond.methodLink RX5 99 yX0_isNone, Cond.instanceMethod yX0_isNone, Cond.selects RX0 yX0_isNone yX0_isNone, Cond.initialized RX0, Cond.code yX0_isNone cX0_isNone 1 (some .boolean), Cond.fieldLink RX0 21 "WaterConsent$Canal" "count" "I", Cond.methodLink RX5 106 yX0_gatesThatMayBeOpened, Cond.instanceMethod yX0_gatesThatMayBeOpened, Cond.selects RX0 yX0_gatesThatMayBeOpened yX0_gatesThatMayBeOpened, Cond.code yX0_gatesThatMayBeOpened cX0_gatesThatMayBeOpened 3 (some .int), Cond.methodLink RX0 29 yX0_lastReach, Cond.instanceMethod yX0_lastReach, Cond.selects RX0 yX0_lastReach yX0_lastReach, Cond.code yX0_lastReach cX0_lastReach 1 (some .int), Cond.methodLink RX0 62 yX0_mayBeOpened, Cond.instanceMethod yX0_mayBeOpened, Cond.selects RX0 yX0_mayBeOpened yX0_mayBeOpened, Cond.code yX0_mayBeOpened cX0_mayBeOpened 2 (some .boolean), Cond.methodLink RX0 56 yX0_hasGate, Cond.instanceMethod yX0_hasGate, Cond.selects RX0 yX0_hasGate yX0_hasGate, Cond.code yX0_hasGate cX0_hasGate 2 (some .boolean), Cond.methodLink RX0 25 yX0_has]
def wsX5_gates_r2 : List Cond := [Cond.instanceMethod yX0_has, Cond.selects RX0 yX0_has yX0_has, Cond.code yX0_has cX0_has 2 (some .boolean), Cond.methodLink RX0 53 yX0_levelOf, Cond.instanceMethod yX0_levelOf, Cond.selects RX0 yX0_levelOf yX0_levelOf, Cond.code yX0_levelOf cX0_levelOf 2 (some .int), Cond.fieldLink RX0 15 "WaterConsent$Canal" "level" "[I", Cond.methodLink RX0 59 yX0_wantOf, Cond.instanceMethod yX0_wantOf, Cond.selects RX0 yX0_wantOf yX0_wantOf, Cond.code yX0_wantOf cX0_wantOf 3 (some .int), Cond.methodLink RX0 37 Lib.Math.max.name, Cond.static Lib.Math.max.name, Cond.initialized "java/lang/Math", Cond.code Lib.Math.max.name Lib.Math.max.code 2 (some .int), Cond.methodLink RX0 33 yX0_limitOf, Cond.instanceMethod yX0_limitOf, Cond.selects RX0 yX0_limitOf yX0_limitOf, Cond.code yX0_limitOf cX0_limitOf 2 (some .int), Cond.fieldLink RX0 18 "WaterConsent$Canal" "limit" "[I", Cond.methodLink RX0 43 yX0_kindOf, Cond.instanceMethod yX0_kindOf, Cond.selects RX0 yX0_kindOf yX0_kindOf]
def wsX5_gates_r3 : List Cond := [Cond.code yX0_kindOf cX0_kindOf 2 (some .int), Cond.fieldLink RX0 9 "WaterConsent$Canal" "kind" "[I"]
def wsX5_gates : List Cond := .code yX5_gates cX5_gates 1 (some .int) :: ((wsX5_gates_r1 ++ (wsX5_gates_r2 ++ wsX5_gates_r3)) ++ wsX50 ++ wsX00)
def wsX5_open_r1 : List Cond := [Cond.fieldLink RX5 20 "WaterConsent" "canal" "LWaterConsent$Canal;", Cond.methodLink RX5 110 yX0_hasGate, Cond.instanceMethod yX0_hasGate, Cond.selects RX0 yX0_hasGate yX0_hasGate, Cond.initialized RX0, Cond.code yX0_hasGate cX0_hasGate 2 (some .boolean), Cond.methodLink RX0 25 yX0_has, Cond.instanceMethod yX0_has, Cond.selects RX0 yX0_has yX0_has, Cond.code yX0_has cX0_has 2 (some .boolean), Cond.fieldLink RX0 21 "WaterConsent$Canal" "count" "I", Cond.methodLink RX0 29 yX0_lastReach, Cond.instanceMethod yX0_lastReach, Cond.selects RX0 yX0_lastReach yX0_lastReach, Cond.code yX0_lastReach cX0_lastReach 1 (some .int), Cond.methodLink RX5 113 yX0_mayBeOpened, Cond.instanceMethod yX0_mayBeOpened, Cond.selects RX0 yX0_mayBeOpened yX0_mayBeOpened, Cond.code yX0_mayBeOpened cX0_mayBeOpened 2 (some .boolean), Cond.methodLink RX0 56 yX0_hasGate, Cond.methodLink RX0 53 yX0_levelOf, Cond.instanceMethod yX0_levelOf, Cond.selects RX0 yX0_levelOf yX0_levelOf, Cond.code yX0_levelOf cX0_levelOf 2 (some .int)]
def wsX5_open_r2 : List Cond := [Cond.fieldLink RX0 15 "WaterConsent$Canal" "level" "[I", Cond.methodLink RX0 59 yX0_wantOf, Cond.instanceMethod yX0_wantOf, Cond.selects RX0 yX0_wantOf yX0_wantOf, Cond.code yX0_wantOf cX0_wantOf 3 (some .int), Cond.methodLink RX0 37 Lib.Math.max.name, Cond.static Lib.Math.max.name, Cond.initialized "java/lang/Math", Cond.code Lib.Math.max.name Lib.Math.max.code 2 (some .int), Cond.methodLink RX0 33 yX0_limitOf, Cond.instanceMethod yX0_limitOf, Cond.selects RX0 yX0_limitOf yX0_limitOf, Cond.code yX0_limitOf cX0_limitOf 2 (some .int), Cond.fieldLink RX0 18 "WaterConsent$Canal" "limit" "[I", Cond.methodLink RX0 43 yX0_kindOf, Cond.instanceMethod yX0_kindOf, Cond.selects RX0 yX0_kindOf yX0_kindOf, Cond.code yX0_kindOf cX0_kindOf 2 (some .int), Cond.fieldLink RX0 9 "WaterConsent$Canal" "kind" "[I", Cond.methodLink RX5 116 yX0_letThrough, Cond.instanceMethod yX0_letThrough, Cond.selects RX0 yX0_letThrough yX0_letThrough, Cond.code yX0_letThrough cX0_letThrough 2 none, Cond.methodLink RX0 49 yX0_become]
def wsX5_open_r3 : List Cond := [Cond.instanceMethod yX0_become, Cond.selects RX0 yX0_become yX0_become, Cond.code yX0_become cX0_become 4 none, Cond.methodLink RX5 82 yX0_levelOf]
def wsX5_open : List Cond := .code yX5_open cX5_open 2 (some .int) :: ((wsX5_open_r1 ++ (wsX5_open_r2 ++ wsX5_open_r3)) ++ wsX50 ++ wsX00)
def wsX5_nights_r1 : List Cond := [Cond.fieldLink RX5 20 "WaterConsent" "canal" "LWaterConsent$Canal;", Cond.methodLink RX5 91 yX5_isFrom0To, Cond.static yX5_isFrom0To, Cond.initialized RX5, Cond.code yX5_isFrom0To cX5_isFrom0To 2 (some .boolean), Cond.methodLink RX5 99 yX0_isNone, Cond.instanceMethod yX0_isNone, Cond.selects RX0 yX0_isNone yX0_isNone, Cond.initialized RX0, Cond.code yX0_isNone cX0_isNone 1 (some .boolean), Cond.fieldLink RX0 21 "WaterConsent$Canal" "count" "I", Cond.methodLink RX5 120 yX0_passNight, Cond.instanceMethod yX0_passNight, Cond.selects RX0 yX0_passNight yX0_passNight, Cond.code yX0_passNight cX0_passNight 1 none, Cond.fieldLink RX0 46 "WaterConsent$Canal" "rain" "I", Cond.methodLink RX0 65 Lib.Math.min.name, Cond.static Lib.Math.min.name, Cond.initialized "java/lang/Math", Cond.code Lib.Math.min.name Lib.Math.min.code 2 (some .int), Cond.methodLink RX0 37 Lib.Math.max.name, Cond.static Lib.Math.max.name, Cond.code Lib.Math.max.name Lib.Math.max.code 2 (some .int), Cond.methodLink RX0 53 yX0_levelOf]
def wsX5_nights_r2 : List Cond := [Cond.instanceMethod yX0_levelOf, Cond.selects RX0 yX0_levelOf yX0_levelOf, Cond.code yX0_levelOf cX0_levelOf 2 (some .int), Cond.fieldLink RX0 15 "WaterConsent$Canal" "level" "[I", Cond.methodLink RX0 25 yX0_has, Cond.instanceMethod yX0_has, Cond.selects RX0 yX0_has yX0_has, Cond.code yX0_has cX0_has 2 (some .boolean), Cond.methodLink RX0 49 yX0_become, Cond.instanceMethod yX0_become, Cond.selects RX0 yX0_become yX0_become, Cond.code yX0_become cX0_become 4 none, Cond.fieldLink RX0 9 "WaterConsent$Canal" "kind" "[I", Cond.fieldLink RX0 18 "WaterConsent$Canal" "limit" "[I", Cond.methodLink RX0 29 yX0_lastReach, Cond.instanceMethod yX0_lastReach, Cond.selects RX0 yX0_lastReach yX0_lastReach, Cond.code yX0_lastReach cX0_lastReach 1 (some .int), Cond.methodLink RX5 82 yX0_levelOf]
def wsX5_nights : List Cond := .code yX5_nights cX5_nights 3 (some .int) :: ((wsX5_nights_r1 ++ wsX5_nights_r2) ++ wsX50 ++ wsX00)
def wsX5_isWhatOfActs : List Cond := .code yX5_isWhatOfActs cX5_isWhatOfActs 1 (some .boolean) :: ([.methodLink RX5 91 yX5_isFrom0To, .static yX5_isFrom0To, .initialized RX5, .code yX5_isFrom0To cX5_isFrom0To 2 (some .boolean)])
def wsX5_areActs : List Cond := .code yX5_areActs cX5_areActs 5 (some .boolean) :: ([.fieldLink RX5 20 "WaterConsent" "canal" "LWaterConsent$Canal;", .methodLink RX5 141 yX3_cellAt, .instanceMethod yX3_cellAt, .selects RX3 yX3_cellAt yX3_cellAt, .initialized RX3, .code yX3_cellAt cX3_cellAt 2 (some .int), .fieldLink RX3 23 "WaterConsent$Sheet" "count" "I", .fieldLink RX3 9 "WaterConsent$Sheet" "cells" "[I", .methodLink RX5 144 yX0_lastReach, .instanceMethod yX0_lastReach, .selects RX0 yX0_lastReach yX0_lastReach, .initialized RX0, .code yX0_lastReach cX0_lastReach 1 (some .int), .fieldLink RX0 21 "WaterConsent$Canal" "count" "I", .methodLink RX5 91 yX5_isFrom0To, .static yX5_isFrom0To, .initialized RX5, .code yX5_isFrom0To cX5_isFrom0To 2 (some .boolean)] ++ wsX50 ++ wsX30 ++ wsX00)
def wsX5_actOnTrial_r1 : List Cond := [Cond.fieldLink RX5 24 "WaterConsent" "trial" "LWaterConsent$Canal;", Cond.methodLink RX5 141 yX3_cellAt, Cond.instanceMethod yX3_cellAt, Cond.selects RX3 yX3_cellAt yX3_cellAt, Cond.initialized RX3, Cond.code yX3_cellAt cX3_cellAt 2 (some .int), Cond.fieldLink RX3 23 "WaterConsent$Sheet" "count" "I", Cond.fieldLink RX3 9 "WaterConsent$Sheet" "cells" "[I", Cond.methodLink RX5 144 yX0_lastReach, Cond.instanceMethod yX0_lastReach, Cond.selects RX0 yX0_lastReach yX0_lastReach, Cond.initialized RX0, Cond.code yX0_lastReach cX0_lastReach 1 (some .int), Cond.fieldLink RX0 21 "WaterConsent$Canal" "count" "I", Cond.methodLink RX5 120 yX0_passNight, Cond.instanceMethod yX0_passNight, Cond.selects RX0 yX0_passNight yX0_passNight, Cond.code yX0_passNight cX0_passNight 1 none, Cond.fieldLink RX0 46 "WaterConsent$Canal" "rain" "I", Cond.methodLink RX0 65 Lib.Math.min.name, Cond.static Lib.Math.min.name, Cond.initialized "java/lang/Math", Cond.code Lib.Math.min.name Lib.Math.min.code 2 (some .int), Cond.methodLink RX0 37 Lib.Math.max.name]
def wsX5_actOnTrial_r2 : List Cond := [Cond.static Lib.Math.max.name, Cond.code Lib.Math.max.name Lib.Math.max.code 2 (some .int), Cond.methodLink RX0 53 yX0_levelOf, Cond.instanceMethod yX0_levelOf, Cond.selects RX0 yX0_levelOf yX0_levelOf, Cond.code yX0_levelOf cX0_levelOf 2 (some .int), Cond.fieldLink RX0 15 "WaterConsent$Canal" "level" "[I", Cond.methodLink RX0 25 yX0_has, Cond.instanceMethod yX0_has, Cond.selects RX0 yX0_has yX0_has, Cond.code yX0_has cX0_has 2 (some .boolean), Cond.methodLink RX0 49 yX0_become, Cond.instanceMethod yX0_become, Cond.selects RX0 yX0_become yX0_become, Cond.code yX0_become cX0_become 4 none, Cond.fieldLink RX0 9 "WaterConsent$Canal" "kind" "[I", Cond.fieldLink RX0 18 "WaterConsent$Canal" "limit" "[I", Cond.methodLink RX0 29 yX0_lastReach, Cond.methodLink RX5 113 yX0_mayBeOpened, Cond.instanceMethod yX0_mayBeOpened, Cond.selects RX0 yX0_mayBeOpened yX0_mayBeOpened, Cond.code yX0_mayBeOpened cX0_mayBeOpened 2 (some .boolean), Cond.methodLink RX0 56 yX0_hasGate, Cond.instanceMethod yX0_hasGate]
def wsX5_actOnTrial_r3 : List Cond := [Cond.selects RX0 yX0_hasGate yX0_hasGate, Cond.code yX0_hasGate cX0_hasGate 2 (some .boolean), Cond.methodLink RX0 59 yX0_wantOf, Cond.instanceMethod yX0_wantOf, Cond.selects RX0 yX0_wantOf yX0_wantOf, Cond.code yX0_wantOf cX0_wantOf 3 (some .int), Cond.methodLink RX0 33 yX0_limitOf, Cond.instanceMethod yX0_limitOf, Cond.selects RX0 yX0_limitOf yX0_limitOf, Cond.code yX0_limitOf cX0_limitOf 2 (some .int), Cond.methodLink RX0 43 yX0_kindOf, Cond.instanceMethod yX0_kindOf, Cond.selects RX0 yX0_kindOf yX0_kindOf, Cond.code yX0_kindOf cX0_kindOf 2 (some .int), Cond.methodLink RX5 116 yX0_letThrough, Cond.instanceMethod yX0_letThrough, Cond.selects RX0 yX0_letThrough yX0_letThrough, Cond.code yX0_letThrough cX0_letThrough 2 none]
def wsX5_actOnTrial : List Cond := .code yX5_actOnTrial cX5_actOnTrial 6 (some .int) :: ((wsX5_actOnTrial_r1 ++ (wsX5_actOnTrial_r2 ++ wsX5_actOnTrial_r3)) ++ wsX50 ++ wsX30 ++ wsX00)
def wsX5_openingsAmong : List Cond := .code yX5_openingsAmong cX5_openingsAmong 6 (some .int) :: ([.fieldLink RX5 20 "WaterConsent" "canal" "LWaterConsent$Canal;", .methodLink RX5 141 yX3_cellAt, .instanceMethod yX3_cellAt, .selects RX3 yX3_cellAt yX3_cellAt, .initialized RX3, .code yX3_cellAt cX3_cellAt 2 (some .int), .fieldLink RX3 23 "WaterConsent$Sheet" "count" "I", .fieldLink RX3 9 "WaterConsent$Sheet" "cells" "[I", .methodLink RX5 144 yX0_lastReach, .instanceMethod yX0_lastReach, .selects RX0 yX0_lastReach yX0_lastReach, .initialized RX0, .code yX0_lastReach cX0_lastReach 1 (some .int), .fieldLink RX0 21 "WaterConsent$Canal" "count" "I"] ++ wsX50 ++ wsX30 ++ wsX00)
def wsX5_behindActs_r1 : List Cond := [Cond.fieldLink RX5 24 "WaterConsent" "trial" "LWaterConsent$Canal;", Cond.methodLink RX5 147 yX0_levelsTogether, Cond.instanceMethod yX0_levelsTogether, Cond.selects RX0 yX0_levelsTogether yX0_levelsTogether, Cond.initialized RX0, Cond.code yX0_levelsTogether cX0_levelsTogether 3 (some .int), Cond.fieldLink RX0 21 "WaterConsent$Canal" "count" "I", Cond.methodLink RX0 53 yX0_levelOf, Cond.instanceMethod yX0_levelOf, Cond.selects RX0 yX0_levelOf yX0_levelOf, Cond.code yX0_levelOf cX0_levelOf 2 (some .int), Cond.fieldLink RX0 15 "WaterConsent$Canal" "level" "[I", Cond.methodLink RX0 25 yX0_has, Cond.instanceMethod yX0_has, Cond.selects RX0 yX0_has yX0_has, Cond.code yX0_has cX0_has 2 (some .boolean), Cond.methodLink RX5 150 yX5_openingsAmong, Cond.instanceMethod yX5_openingsAmong, Cond.selects RX5 yX5_openingsAmong yX5_openingsAmong, Cond.initialized RX5, Cond.code yX5_openingsAmong cX5_openingsAmong 6 (some .int), Cond.fieldLink RX5 20 "WaterConsent" "canal" "LWaterConsent$Canal;", Cond.methodLink RX5 141 yX3_cellAt, Cond.instanceMethod yX3_cellAt]
def wsX5_behindActs_r2 : List Cond := [Cond.selects RX3 yX3_cellAt yX3_cellAt, Cond.initialized RX3, Cond.code yX3_cellAt cX3_cellAt 2 (some .int), Cond.fieldLink RX3 23 "WaterConsent$Sheet" "count" "I", Cond.fieldLink RX3 9 "WaterConsent$Sheet" "cells" "[I", Cond.methodLink RX5 144 yX0_lastReach, Cond.instanceMethod yX0_lastReach, Cond.selects RX0 yX0_lastReach yX0_lastReach, Cond.code yX0_lastReach cX0_lastReach 1 (some .int), Cond.methodLink RX5 106 yX0_gatesThatMayBeOpened, Cond.instanceMethod yX0_gatesThatMayBeOpened, Cond.selects RX0 yX0_gatesThatMayBeOpened yX0_gatesThatMayBeOpened, Cond.code yX0_gatesThatMayBeOpened cX0_gatesThatMayBeOpened 3 (some .int), Cond.methodLink RX0 29 yX0_lastReach, Cond.methodLink RX0 62 yX0_mayBeOpened, Cond.instanceMethod yX0_mayBeOpened, Cond.selects RX0 yX0_mayBeOpened yX0_mayBeOpened, Cond.code yX0_mayBeOpened cX0_mayBeOpened 2 (some .boolean), Cond.methodLink RX0 56 yX0_hasGate, Cond.instanceMethod yX0_hasGate, Cond.selects RX0 yX0_hasGate yX0_hasGate, Cond.code yX0_hasGate cX0_hasGate 2 (some .boolean), Cond.methodLink RX0 59 yX0_wantOf, Cond.instanceMethod yX0_wantOf]
def wsX5_behindActs_r3 : List Cond := [Cond.selects RX0 yX0_wantOf yX0_wantOf, Cond.code yX0_wantOf cX0_wantOf 3 (some .int), Cond.methodLink RX0 37 Lib.Math.max.name, Cond.static Lib.Math.max.name, Cond.initialized "java/lang/Math", Cond.code Lib.Math.max.name Lib.Math.max.code 2 (some .int), Cond.methodLink RX0 33 yX0_limitOf, Cond.instanceMethod yX0_limitOf, Cond.selects RX0 yX0_limitOf yX0_limitOf, Cond.code yX0_limitOf cX0_limitOf 2 (some .int), Cond.fieldLink RX0 18 "WaterConsent$Canal" "limit" "[I", Cond.methodLink RX0 43 yX0_kindOf, Cond.instanceMethod yX0_kindOf, Cond.selects RX0 yX0_kindOf yX0_kindOf, Cond.code yX0_kindOf cX0_kindOf 2 (some .int), Cond.fieldLink RX0 9 "WaterConsent$Canal" "kind" "[I", Cond.methodLink RX5 76 yX0_has, Cond.methodLink RX5 82 yX0_levelOf]
def wsX5_behindActs : List Cond := .code yX5_behindActs cX5_behindActs 5 (some .int) :: ((wsX5_behindActs_r1 ++ (wsX5_behindActs_r2 ++ wsX5_behindActs_r3)) ++ wsX50 ++ wsX00 ++ wsX30)
def wsX5_acts_r1 : List Cond := [Cond.fieldLink RX5 42 "WaterConsent" "fault" "I", Cond.fieldLink RX5 20 "WaterConsent" "canal" "LWaterConsent$Canal;", Cond.fieldLink RX5 24 "WaterConsent" "trial" "LWaterConsent$Canal;", Cond.methodLink RX5 46 yX5_sheetAt, Cond.instanceMethod yX5_sheetAt, Cond.selects RX5 yX5_sheetAt yX5_sheetAt, Cond.initialized RX5, Cond.code yX5_sheetAt cX5_sheetAt 2 (some (.object "WaterConsent$Sheet")), Cond.fieldLink RX5 13 "WaterConsent" "sheets" "[LWaterConsent$Sheet;", Cond.methodLink RX5 50 yX5_isLane, Cond.static yX5_isLane, Cond.code yX5_isLane cX5_isLane 1 (some .boolean), Cond.methodLink RX5 91 yX5_isFrom0To, Cond.static yX5_isFrom0To, Cond.code yX5_isFrom0To cX5_isFrom0To 2 (some .boolean), Cond.methodLink RX5 123 yX5_isWhatOfActs, Cond.static yX5_isWhatOfActs, Cond.code yX5_isWhatOfActs cX5_isWhatOfActs 1 (some .boolean), Cond.methodLink RX5 99 yX0_isNone, Cond.instanceMethod yX0_isNone, Cond.selects RX0 yX0_isNone yX0_isNone, Cond.initialized RX0, Cond.code yX0_isNone cX0_isNone 1 (some .boolean), Cond.fieldLink RX0 21 "WaterConsent$Canal" "count" "I"]
def wsX5_acts_r2 : List Cond := [Cond.methodLink RX5 54 yX3_faultOf, Cond.instanceMethod yX3_faultOf, Cond.selects RX3 yX3_faultOf yX3_faultOf, Cond.initialized RX3, Cond.code yX3_faultOf cX3_faultOf 4 (some .int), Cond.fieldLink RX3 15 "WaterConsent$Sheet" "there" "Z", Cond.fieldLink RX3 19 "WaterConsent$Sheet" "lane" "I", Cond.methodLink RX3 32 yX3_hasCells, Cond.instanceMethod yX3_hasCells, Cond.selects RX3 yX3_hasCells yX3_hasCells, Cond.code yX3_hasCells cX3_hasCells 3 (some .boolean), Cond.fieldLink RX3 23 "WaterConsent$Sheet" "count" "I", Cond.fieldLink RX3 9 "WaterConsent$Sheet" "cells" "[I", Cond.methodLink RX5 58 yX5_faulted, Cond.instanceMethod yX5_faulted, Cond.selects RX5 yX5_faulted yX5_faulted, Cond.code yX5_faulted cX5_faulted 2 (some .int), Cond.methodLink RX5 126 yX5_areActs, Cond.instanceMethod yX5_areActs, Cond.selects RX5 yX5_areActs yX5_areActs, Cond.code yX5_areActs cX5_areActs 5 (some .boolean), Cond.methodLink RX5 141 yX3_cellAt, Cond.instanceMethod yX3_cellAt, Cond.selects RX3 yX3_cellAt yX3_cellAt]
def wsX5_acts_r3 : List Cond := [Cond.code yX3_cellAt cX3_cellAt 2 (some .int), Cond.methodLink RX5 144 yX0_lastReach, Cond.instanceMethod yX0_lastReach, Cond.selects RX0 yX0_lastReach yX0_lastReach, Cond.code yX0_lastReach cX0_lastReach 1 (some .int), Cond.methodLink RX5 130 yX0_takeOver, Cond.instanceMethod yX0_takeOver, Cond.selects RX0 yX0_takeOver yX0_takeOver, Cond.code yX0_takeOver cX0_takeOver 3 none, Cond.fieldLink RX0 46 "WaterConsent$Canal" "rain" "I", Cond.methodLink RX0 43 yX0_kindOf, Cond.instanceMethod yX0_kindOf, Cond.selects RX0 yX0_kindOf yX0_kindOf, Cond.code yX0_kindOf cX0_kindOf 2 (some .int), Cond.fieldLink RX0 9 "WaterConsent$Canal" "kind" "[I", Cond.methodLink RX0 25 yX0_has, Cond.instanceMethod yX0_has, Cond.selects RX0 yX0_has yX0_has, Cond.code yX0_has cX0_has 2 (some .boolean), Cond.methodLink RX0 49 yX0_become, Cond.instanceMethod yX0_become, Cond.selects RX0 yX0_become yX0_become, Cond.code yX0_become cX0_become 4 none, Cond.fieldLink RX0 15 "WaterConsent$Canal" "level" "[I"]
def wsX5_acts_r4 : List Cond := [Cond.fieldLink RX0 18 "WaterConsent$Canal" "limit" "[I", Cond.methodLink RX0 53 yX0_levelOf, Cond.instanceMethod yX0_levelOf, Cond.selects RX0 yX0_levelOf yX0_levelOf, Cond.code yX0_levelOf cX0_levelOf 2 (some .int), Cond.methodLink RX0 33 yX0_limitOf, Cond.instanceMethod yX0_limitOf, Cond.selects RX0 yX0_limitOf yX0_limitOf, Cond.code yX0_limitOf cX0_limitOf 2 (some .int), Cond.methodLink RX5 134 yX5_actOnTrial, Cond.instanceMethod yX5_actOnTrial, Cond.selects RX5 yX5_actOnTrial yX5_actOnTrial, Cond.code yX5_actOnTrial cX5_actOnTrial 6 (some .int), Cond.methodLink RX5 120 yX0_passNight, Cond.instanceMethod yX0_passNight, Cond.selects RX0 yX0_passNight yX0_passNight, Cond.code yX0_passNight cX0_passNight 1 none, Cond.methodLink RX0 65 Lib.Math.min.name, Cond.static Lib.Math.min.name, Cond.initialized "java/lang/Math", Cond.code Lib.Math.min.name Lib.Math.min.code 2 (some .int), Cond.methodLink RX0 37 Lib.Math.max.name, Cond.static Lib.Math.max.name, Cond.code Lib.Math.max.name Lib.Math.max.code 2 (some .int)]
def wsX5_acts_r5 : List Cond := [Cond.methodLink RX0 29 yX0_lastReach, Cond.methodLink RX5 113 yX0_mayBeOpened, Cond.instanceMethod yX0_mayBeOpened, Cond.selects RX0 yX0_mayBeOpened yX0_mayBeOpened, Cond.code yX0_mayBeOpened cX0_mayBeOpened 2 (some .boolean), Cond.methodLink RX0 56 yX0_hasGate, Cond.instanceMethod yX0_hasGate, Cond.selects RX0 yX0_hasGate yX0_hasGate, Cond.code yX0_hasGate cX0_hasGate 2 (some .boolean), Cond.methodLink RX0 59 yX0_wantOf, Cond.instanceMethod yX0_wantOf, Cond.selects RX0 yX0_wantOf yX0_wantOf, Cond.code yX0_wantOf cX0_wantOf 3 (some .int), Cond.methodLink RX5 116 yX0_letThrough, Cond.instanceMethod yX0_letThrough, Cond.selects RX0 yX0_letThrough yX0_letThrough, Cond.code yX0_letThrough cX0_letThrough 2 none, Cond.methodLink RX5 137 yX5_behindActs, Cond.instanceMethod yX5_behindActs, Cond.selects RX5 yX5_behindActs yX5_behindActs, Cond.code yX5_behindActs cX5_behindActs 5 (some .int), Cond.methodLink RX5 147 yX0_levelsTogether, Cond.instanceMethod yX0_levelsTogether, Cond.selects RX0 yX0_levelsTogether yX0_levelsTogether]
def wsX5_acts_r6 : List Cond := [Cond.code yX0_levelsTogether cX0_levelsTogether 3 (some .int), Cond.methodLink RX5 150 yX5_openingsAmong, Cond.instanceMethod yX5_openingsAmong, Cond.selects RX5 yX5_openingsAmong yX5_openingsAmong, Cond.code yX5_openingsAmong cX5_openingsAmong 6 (some .int), Cond.methodLink RX5 106 yX0_gatesThatMayBeOpened, Cond.instanceMethod yX0_gatesThatMayBeOpened, Cond.selects RX0 yX0_gatesThatMayBeOpened yX0_gatesThatMayBeOpened, Cond.code yX0_gatesThatMayBeOpened cX0_gatesThatMayBeOpened 3 (some .int), Cond.methodLink RX0 62 yX0_mayBeOpened, Cond.methodLink RX5 76 yX0_has, Cond.methodLink RX5 82 yX0_levelOf]
def wsX5_acts : List Cond := .code yX5_acts cX5_acts 9 (some .int) :: ((wsX5_acts_r1 ++ (wsX5_acts_r2 ++ (wsX5_acts_r3 ++ (wsX5_acts_r4 ++ (wsX5_acts_r5 ++ wsX5_acts_r6))))) ++ wsX50 ++ wsX00 ++ wsX30)
def wsX5_isPlaceOfRow : List Cond := .code yX5_isPlaceOfRow cX5_isPlaceOfRow 1 (some .boolean) :: ([])
def wsX5_boat_r1 : List Cond := [Cond.fieldLink RX5 20 "WaterConsent" "canal" "LWaterConsent$Canal;", Cond.fieldLink RX5 37 "WaterConsent" "search" "LWaterConsent$Search;", Cond.methodLink RX5 76 yX0_has, Cond.instanceMethod yX0_has, Cond.selects RX0 yX0_has yX0_has, Cond.initialized RX0, Cond.code yX0_has cX0_has 2 (some .boolean), Cond.fieldLink RX0 21 "WaterConsent$Canal" "count" "I", Cond.methodLink RX5 153 yX5_isPlaceOfRow, Cond.static yX5_isPlaceOfRow, Cond.initialized RX5, Cond.code yX5_isPlaceOfRow cX5_isPlaceOfRow 1 (some .boolean), Cond.methodLink RX5 156 yX2_aimBoatAt, Cond.instanceMethod yX2_aimBoatAt, Cond.selects RX2 yX2_aimBoatAt yX2_aimBoatAt, Cond.initialized RX2, Cond.code yX2_aimBoatAt cX2_aimBoatAt 2 none, Cond.fieldLink RX2 32 "WaterConsent$Search" "byBoat" "Z", Cond.fieldLink RX2 36 "WaterConsent$Search" "goalReach" "I", Cond.fieldLink RX2 39 "WaterConsent$Search" "goalLevel" "I", Cond.methodLink RX5 159 yX2_look, Cond.instanceMethod yX2_look, Cond.selects RX2 yX2_look yX2_look, Cond.code yX2_look cX2_look 6 none]
def wsX5_boat_r2 : List Cond := [Cond.fieldLink RX2 48 "WaterConsent$Search" "lastReach" "I", Cond.fieldLink RX2 50 "WaterConsent$Canal" "rain" "I", Cond.fieldLink RX2 53 "WaterConsent$Search" "rain" "I", Cond.fieldLink RX2 54 "WaterConsent$Search" "wants" "I", Cond.fieldLink RX2 28 "WaterConsent$Search" "known" "J", Cond.methodLink RX2 42 yX0_lastReach, Cond.instanceMethod yX0_lastReach, Cond.selects RX0 yX0_lastReach yX0_lastReach, Cond.code yX0_lastReach cX0_lastReach 1 (some .int), Cond.methodLink RX2 57 yX0_levelOf, Cond.instanceMethod yX0_levelOf, Cond.selects RX0 yX0_levelOf yX0_levelOf, Cond.code yX0_levelOf cX0_levelOf 2 (some .int), Cond.fieldLink RX0 15 "WaterConsent$Canal" "level" "[I", Cond.methodLink RX0 25 yX0_has, Cond.methodLink RX2 61 yX2_weight, Cond.static yX2_weight, Cond.code yX2_weight cX2_weight 1 (some .int), Cond.methodLink RX2 64 yX0_wantOf, Cond.instanceMethod yX0_wantOf, Cond.selects RX0 yX0_wantOf yX0_wantOf, Cond.code yX0_wantOf cX0_wantOf 3 (some .int), Cond.methodLink RX0 37 Lib.Math.max.name, Cond.static Lib.Math.max.name]
def wsX5_boat_r3 : List Cond := [Cond.initialized "java/lang/Math", Cond.code Lib.Math.max.name Lib.Math.max.code 2 (some .int), Cond.methodLink RX0 33 yX0_limitOf, Cond.instanceMethod yX0_limitOf, Cond.selects RX0 yX0_limitOf yX0_limitOf, Cond.code yX0_limitOf cX0_limitOf 2 (some .int), Cond.fieldLink RX0 18 "WaterConsent$Canal" "limit" "[I", Cond.methodLink RX0 43 yX0_kindOf, Cond.instanceMethod yX0_kindOf, Cond.selects RX0 yX0_kindOf yX0_kindOf, Cond.code yX0_kindOf cX0_kindOf 2 (some .int), Cond.fieldLink RX0 9 "WaterConsent$Canal" "kind" "[I", Cond.methodLink RX2 67 yX2_keyOf, Cond.instanceMethod yX2_keyOf, Cond.selects RX2 yX2_keyOf yX2_keyOf, Cond.code yX2_keyOf cX2_keyOf 4 (some .long), Cond.constantLong RX2 75 (10000), Cond.constantLong RX2 77 (4), Cond.constantLong RX2 79 (2), Cond.constantLong RX2 81 (10), Cond.methodLink RX2 71 yX2_find, Cond.instanceMethod yX2_find, Cond.selects RX2 yX2_find yX2_find, Cond.code yX2_find cX2_find 6 none]
def wsX5_boat_r4 : List Cond := [Cond.fieldLink RX2 22 "WaterConsent$Search" "length" "I", Cond.fieldLink RX2 94 "WaterConsent$Search" "tail" "I", Cond.fieldLink RX2 16 "WaterConsent$Search" "queue" "[I", Cond.methodLink RX2 83 yX2_forgetStates, Cond.instanceMethod yX2_forgetStates, Cond.selects RX2 yX2_forgetStates yX2_forgetStates, Cond.code yX2_forgetStates cX2_forgetStates 3 none, Cond.fieldLink RX2 12 "WaterConsent$Search" "cameBy" "[I", Cond.methodLink RX2 103 yX2_isState, Cond.instanceMethod yX2_isState, Cond.selects RX2 yX2_isState yX2_isState, Cond.code yX2_isState cX2_isState 2 (some .boolean), Cond.methodLink RX2 86 yX2_isGoal, Cond.instanceMethod yX2_isGoal, Cond.selects RX2 yX2_isGoal yX2_isGoal, Cond.code yX2_isGoal cX2_isGoal 2 (some .boolean), Cond.methodLink RX2 113 yX2_digit, Cond.static yX2_digit, Cond.code yX2_digit cX2_digit 2 (some .int), Cond.methodLink RX2 90 yX2_comeTo, Cond.instanceMethod yX2_comeTo, Cond.selects RX2 yX2_comeTo yX2_comeTo, Cond.code yX2_comeTo cX2_comeTo 4 (some .boolean), Cond.methodLink RX2 97 yX2_goOnFrom]
def wsX5_boat_r5 : List Cond := [Cond.instanceMethod yX2_goOnFrom, Cond.selects RX2 yX2_goOnFrom yX2_goOnFrom, Cond.code yX2_goOnFrom cX2_goOnFrom 4 (some .int), Cond.methodLink RX2 106 yX2_behindNight, Cond.instanceMethod yX2_behindNight, Cond.selects RX2 yX2_behindNight yX2_behindNight, Cond.code yX2_behindNight cX2_behindNight 4 (some .int), Cond.methodLink RX2 116 Lib.Math.min.name, Cond.static Lib.Math.min.name, Cond.code Lib.Math.min.name Lib.Math.min.code 2 (some .int), Cond.methodLink RX2 109 yX2_behindOpening, Cond.instanceMethod yX2_behindOpening, Cond.selects RX2 yX2_behindOpening yX2_behindOpening, Cond.code yX2_behindOpening cX2_behindOpening 4 (some .int), Cond.methodLink RX2 100 yX2_keepRowTo, Cond.instanceMethod yX2_keepRowTo, Cond.selects RX2 yX2_keepRowTo yX2_keepRowTo, Cond.code yX2_keepRowTo cX2_keepRowTo 5 none, Cond.fieldLink RX2 19 "WaterConsent$Search" "row" "[I", Cond.methodLink RX5 163 yX2_actAt, Cond.instanceMethod yX2_actAt, Cond.selects RX2 yX2_actAt yX2_actAt, Cond.code yX2_actAt cX2_actAt 2 (some .int)]
def wsX5_boat : List Cond := .code yX5_boat cX5_boat 4 (some .int) :: ((wsX5_boat_r1 ++ (wsX5_boat_r2 ++ (wsX5_boat_r3 ++ (wsX5_boat_r4 ++ wsX5_boat_r5)))) ++ wsX50 ++ wsX00 ++ wsX20)
def wsX5_raise_r1 : List Cond := [Cond.fieldLink RX5 20 "WaterConsent" "canal" "LWaterConsent$Canal;", Cond.fieldLink RX5 37 "WaterConsent" "search" "LWaterConsent$Search;", Cond.methodLink RX5 76 yX0_has, Cond.instanceMethod yX0_has, Cond.selects RX0 yX0_has yX0_has, Cond.initialized RX0, Cond.code yX0_has cX0_has 2 (some .boolean), Cond.fieldLink RX0 21 "WaterConsent$Canal" "count" "I", Cond.methodLink RX5 91 yX5_isFrom0To, Cond.static yX5_isFrom0To, Cond.initialized RX5, Cond.code yX5_isFrom0To cX5_isFrom0To 2 (some .boolean), Cond.methodLink RX5 153 yX5_isPlaceOfRow, Cond.static yX5_isPlaceOfRow, Cond.code yX5_isPlaceOfRow cX5_isPlaceOfRow 1 (some .boolean), Cond.methodLink RX5 166 yX2_aimAtLevel, Cond.instanceMethod yX2_aimAtLevel, Cond.selects RX2 yX2_aimAtLevel yX2_aimAtLevel, Cond.initialized RX2, Cond.code yX2_aimAtLevel cX2_aimAtLevel 3 none, Cond.fieldLink RX2 32 "WaterConsent$Search" "byBoat" "Z", Cond.fieldLink RX2 36 "WaterConsent$Search" "goalReach" "I", Cond.fieldLink RX2 39 "WaterConsent$Search" "goalLevel" "I", Cond.methodLink RX5 159 yX2_look]
def wsX5_raise_r2 : List Cond := [Cond.instanceMethod yX2_look, Cond.selects RX2 yX2_look yX2_look, Cond.code yX2_look cX2_look 6 none, Cond.fieldLink RX2 48 "WaterConsent$Search" "lastReach" "I", Cond.fieldLink RX2 50 "WaterConsent$Canal" "rain" "I", Cond.fieldLink RX2 53 "WaterConsent$Search" "rain" "I", Cond.fieldLink RX2 54 "WaterConsent$Search" "wants" "I", Cond.fieldLink RX2 28 "WaterConsent$Search" "known" "J", Cond.methodLink RX2 42 yX0_lastReach, Cond.instanceMethod yX0_lastReach, Cond.selects RX0 yX0_lastReach yX0_lastReach, Cond.code yX0_lastReach cX0_lastReach 1 (some .int), Cond.methodLink RX2 57 yX0_levelOf, Cond.instanceMethod yX0_levelOf, Cond.selects RX0 yX0_levelOf yX0_levelOf, Cond.code yX0_levelOf cX0_levelOf 2 (some .int), Cond.fieldLink RX0 15 "WaterConsent$Canal" "level" "[I", Cond.methodLink RX0 25 yX0_has, Cond.methodLink RX2 61 yX2_weight, Cond.static yX2_weight, Cond.code yX2_weight cX2_weight 1 (some .int), Cond.methodLink RX2 64 yX0_wantOf, Cond.instanceMethod yX0_wantOf, Cond.selects RX0 yX0_wantOf yX0_wantOf]
def wsX5_raise_r3 : List Cond := [Cond.code yX0_wantOf cX0_wantOf 3 (some .int), Cond.methodLink RX0 37 Lib.Math.max.name, Cond.static Lib.Math.max.name, Cond.initialized "java/lang/Math", Cond.code Lib.Math.max.name Lib.Math.max.code 2 (some .int), Cond.methodLink RX0 33 yX0_limitOf, Cond.instanceMethod yX0_limitOf, Cond.selects RX0 yX0_limitOf yX0_limitOf, Cond.code yX0_limitOf cX0_limitOf 2 (some .int), Cond.fieldLink RX0 18 "WaterConsent$Canal" "limit" "[I", Cond.methodLink RX0 43 yX0_kindOf, Cond.instanceMethod yX0_kindOf, Cond.selects RX0 yX0_kindOf yX0_kindOf, Cond.code yX0_kindOf cX0_kindOf 2 (some .int), Cond.fieldLink RX0 9 "WaterConsent$Canal" "kind" "[I", Cond.methodLink RX2 67 yX2_keyOf, Cond.instanceMethod yX2_keyOf, Cond.selects RX2 yX2_keyOf yX2_keyOf, Cond.code yX2_keyOf cX2_keyOf 4 (some .long), Cond.constantLong RX2 75 (10000), Cond.constantLong RX2 77 (4), Cond.constantLong RX2 79 (2), Cond.constantLong RX2 81 (10), Cond.methodLink RX2 71 yX2_find]
def wsX5_raise_r4 : List Cond := [Cond.instanceMethod yX2_find, Cond.selects RX2 yX2_find yX2_find, Cond.code yX2_find cX2_find 6 none, Cond.fieldLink RX2 22 "WaterConsent$Search" "length" "I", Cond.fieldLink RX2 94 "WaterConsent$Search" "tail" "I", Cond.fieldLink RX2 16 "WaterConsent$Search" "queue" "[I", Cond.methodLink RX2 83 yX2_forgetStates, Cond.instanceMethod yX2_forgetStates, Cond.selects RX2 yX2_forgetStates yX2_forgetStates, Cond.code yX2_forgetStates cX2_forgetStates 3 none, Cond.fieldLink RX2 12 "WaterConsent$Search" "cameBy" "[I", Cond.methodLink RX2 103 yX2_isState, Cond.instanceMethod yX2_isState, Cond.selects RX2 yX2_isState yX2_isState, Cond.code yX2_isState cX2_isState 2 (some .boolean), Cond.methodLink RX2 86 yX2_isGoal, Cond.instanceMethod yX2_isGoal, Cond.selects RX2 yX2_isGoal yX2_isGoal, Cond.code yX2_isGoal cX2_isGoal 2 (some .boolean), Cond.methodLink RX2 113 yX2_digit, Cond.static yX2_digit, Cond.code yX2_digit cX2_digit 2 (some .int), Cond.methodLink RX2 90 yX2_comeTo, Cond.instanceMethod yX2_comeTo]
def wsX5_raise_r5 : List Cond := [Cond.selects RX2 yX2_comeTo yX2_comeTo, Cond.code yX2_comeTo cX2_comeTo 4 (some .boolean), Cond.methodLink RX2 97 yX2_goOnFrom, Cond.instanceMethod yX2_goOnFrom, Cond.selects RX2 yX2_goOnFrom yX2_goOnFrom, Cond.code yX2_goOnFrom cX2_goOnFrom 4 (some .int), Cond.methodLink RX2 106 yX2_behindNight, Cond.instanceMethod yX2_behindNight, Cond.selects RX2 yX2_behindNight yX2_behindNight, Cond.code yX2_behindNight cX2_behindNight 4 (some .int), Cond.methodLink RX2 116 Lib.Math.min.name, Cond.static Lib.Math.min.name, Cond.code Lib.Math.min.name Lib.Math.min.code 2 (some .int), Cond.methodLink RX2 109 yX2_behindOpening, Cond.instanceMethod yX2_behindOpening, Cond.selects RX2 yX2_behindOpening yX2_behindOpening, Cond.code yX2_behindOpening cX2_behindOpening 4 (some .int), Cond.methodLink RX2 100 yX2_keepRowTo, Cond.instanceMethod yX2_keepRowTo, Cond.selects RX2 yX2_keepRowTo yX2_keepRowTo, Cond.code yX2_keepRowTo cX2_keepRowTo 5 none, Cond.fieldLink RX2 19 "WaterConsent$Search" "row" "[I", Cond.methodLink RX5 163 yX2_actAt, Cond.instanceMethod yX2_actAt]
def wsX5_raise_r6 : List Cond := [Cond.selects RX2 yX2_actAt yX2_actAt, Cond.code yX2_actAt cX2_actAt 2 (some .int)]
def wsX5_raise : List Cond := .code yX5_raise cX5_raise 4 (some .int) :: ((wsX5_raise_r1 ++ (wsX5_raise_r2 ++ (wsX5_raise_r3 ++ (wsX5_raise_r4 ++ (wsX5_raise_r5 ++ wsX5_raise_r6))))) ++ wsX50 ++ wsX00 ++ wsX20)
def wsX5_reading : List Cond := .code yX5_reading cX5_reading 4 (some .int) :: ([.fieldLink RX5 20 "WaterConsent" "canal" "LWaterConsent$Canal;", .fieldLink RX5 30 "WaterConsent" "readings" "LWaterConsent$Readings;", .fieldLink RX5 72 "WaterConsent$Readings" "count" "I", .methodLink RX5 76 yX0_has, .instanceMethod yX0_has, .selects RX0 yX0_has yX0_has, .initialized RX0, .code yX0_has cX0_has 2 (some .boolean), .fieldLink RX0 21 "WaterConsent$Canal" "count" "I", .methodLink RX5 91 yX5_isFrom0To, .static yX5_isFrom0To, .initialized RX5, .code yX5_isFrom0To cX5_isFrom0To 2 (some .boolean), .methodLink RX5 170 yX1_note, .instanceMethod yX1_note, .selects RX1 yX1_note yX1_note, .initialized RX1, .code yX1_note cX1_note 4 (some .boolean), .fieldLink RX1 22 "WaterConsent$Readings" "count" "I", .fieldLink RX1 9 "WaterConsent$Readings" "reach" "[I", .fieldLink RX1 15 "WaterConsent$Readings" "level" "[I", .fieldLink RX1 18 "WaterConsent$Readings" "did" "[Z"] ++ wsX50 ++ wsX10 ++ wsX00)
def wsX5_back : List Cond := .code yX5_back cX5_back 2 (some .int) :: ([.fieldLink RX5 30 "WaterConsent" "readings" "LWaterConsent$Readings;", .fieldLink RX5 72 "WaterConsent$Readings" "count" "I", .methodLink RX5 91 yX5_isFrom0To, .static yX5_isFrom0To, .initialized RX5, .code yX5_isFrom0To cX5_isFrom0To 2 (some .boolean)] ++ wsX50 ++ wsX10)
def wsX5_numbersThatFit_r1 : List Cond := [Cond.fieldLink RX5 20 "WaterConsent" "canal" "LWaterConsent$Canal;", Cond.fieldLink RX5 24 "WaterConsent" "trial" "LWaterConsent$Canal;", Cond.fieldLink RX5 30 "WaterConsent" "readings" "LWaterConsent$Readings;", Cond.methodLink RX5 76 yX0_has, Cond.instanceMethod yX0_has, Cond.selects RX0 yX0_has yX0_has, Cond.initialized RX0, Cond.code yX0_has cX0_has 2 (some .boolean), Cond.fieldLink RX0 21 "WaterConsent$Canal" "count" "I", Cond.methodLink RX5 130 yX0_takeOver, Cond.instanceMethod yX0_takeOver, Cond.selects RX0 yX0_takeOver yX0_takeOver, Cond.code yX0_takeOver cX0_takeOver 3 none, Cond.fieldLink RX0 46 "WaterConsent$Canal" "rain" "I", Cond.methodLink RX0 43 yX0_kindOf, Cond.instanceMethod yX0_kindOf, Cond.selects RX0 yX0_kindOf yX0_kindOf, Cond.code yX0_kindOf cX0_kindOf 2 (some .int), Cond.fieldLink RX0 9 "WaterConsent$Canal" "kind" "[I", Cond.methodLink RX0 25 yX0_has, Cond.methodLink RX0 49 yX0_become, Cond.instanceMethod yX0_become, Cond.selects RX0 yX0_become yX0_become, Cond.code yX0_become cX0_become 4 none]
def wsX5_numbersThatFit_r2 : List Cond := [Cond.fieldLink RX0 15 "WaterConsent$Canal" "level" "[I", Cond.fieldLink RX0 18 "WaterConsent$Canal" "limit" "[I", Cond.methodLink RX0 53 yX0_levelOf, Cond.instanceMethod yX0_levelOf, Cond.selects RX0 yX0_levelOf yX0_levelOf, Cond.code yX0_levelOf cX0_levelOf 2 (some .int), Cond.methodLink RX0 33 yX0_limitOf, Cond.instanceMethod yX0_limitOf, Cond.selects RX0 yX0_limitOf yX0_limitOf, Cond.code yX0_limitOf cX0_limitOf 2 (some .int), Cond.methodLink RX5 95 yX0_become, Cond.methodLink RX5 177 yX1_areSoIn, Cond.instanceMethod yX1_areSoIn, Cond.selects RX1 yX1_areSoIn yX1_areSoIn, Cond.initialized RX1, Cond.code yX1_areSoIn cX1_areSoIn 4 (some .boolean), Cond.fieldLink RX1 22 "WaterConsent$Readings" "count" "I", Cond.fieldLink RX1 15 "WaterConsent$Readings" "level" "[I", Cond.fieldLink RX1 9 "WaterConsent$Readings" "reach" "[I", Cond.fieldLink RX1 18 "WaterConsent$Readings" "did" "[Z", Cond.methodLink RX1 26 yX0_levelOf, Cond.methodLink RX1 32 yX0_wantOf, Cond.instanceMethod yX0_wantOf, Cond.selects RX0 yX0_wantOf yX0_wantOf]
def wsX5_numbersThatFit_r3 : List Cond := [Cond.code yX0_wantOf cX0_wantOf 3 (some .int), Cond.methodLink RX0 37 Lib.Math.max.name, Cond.static Lib.Math.max.name, Cond.initialized "java/lang/Math", Cond.code Lib.Math.max.name Lib.Math.max.code 2 (some .int)]
def wsX5_numbersThatFit : List Cond := .code yX5_numbersThatFit cX5_numbersThatFit 6 (some .int) :: ((wsX5_numbersThatFit_r1 ++ (wsX5_numbersThatFit_r2 ++ wsX5_numbersThatFit_r3)) ++ wsX50 ++ wsX00 ++ wsX10)
def wsX5_limits_r1 : List Cond := [Cond.methodLink RX5 174 yX5_numbersThatFit, Cond.instanceMethod yX5_numbersThatFit, Cond.selects RX5 yX5_numbersThatFit yX5_numbersThatFit, Cond.initialized RX5, Cond.code yX5_numbersThatFit cX5_numbersThatFit 6 (some .int), Cond.fieldLink RX5 20 "WaterConsent" "canal" "LWaterConsent$Canal;", Cond.fieldLink RX5 24 "WaterConsent" "trial" "LWaterConsent$Canal;", Cond.fieldLink RX5 30 "WaterConsent" "readings" "LWaterConsent$Readings;", Cond.methodLink RX5 76 yX0_has, Cond.instanceMethod yX0_has, Cond.selects RX0 yX0_has yX0_has, Cond.initialized RX0, Cond.code yX0_has cX0_has 2 (some .boolean), Cond.fieldLink RX0 21 "WaterConsent$Canal" "count" "I", Cond.methodLink RX5 130 yX0_takeOver, Cond.instanceMethod yX0_takeOver, Cond.selects RX0 yX0_takeOver yX0_takeOver, Cond.code yX0_takeOver cX0_takeOver 3 none, Cond.fieldLink RX0 46 "WaterConsent$Canal" "rain" "I", Cond.methodLink RX0 43 yX0_kindOf, Cond.instanceMethod yX0_kindOf, Cond.selects RX0 yX0_kindOf yX0_kindOf, Cond.code yX0_kindOf cX0_kindOf 2 (some .int), Cond.fieldLink RX0 9 "WaterConsent$Canal" "kind" "[I"]
def wsX5_limits_r2 : List Cond := [Cond.methodLink RX0 25 yX0_has, Cond.methodLink RX0 49 yX0_become, Cond.instanceMethod yX0_become, Cond.selects RX0 yX0_become yX0_become, Cond.code yX0_become cX0_become 4 none, Cond.fieldLink RX0 15 "WaterConsent$Canal" "level" "[I", Cond.fieldLink RX0 18 "WaterConsent$Canal" "limit" "[I", Cond.methodLink RX0 53 yX0_levelOf, Cond.instanceMethod yX0_levelOf, Cond.selects RX0 yX0_levelOf yX0_levelOf, Cond.code yX0_levelOf cX0_levelOf 2 (some .int), Cond.methodLink RX0 33 yX0_limitOf, Cond.instanceMethod yX0_limitOf, Cond.selects RX0 yX0_limitOf yX0_limitOf, Cond.code yX0_limitOf cX0_limitOf 2 (some .int), Cond.methodLink RX5 95 yX0_become, Cond.methodLink RX5 177 yX1_areSoIn, Cond.instanceMethod yX1_areSoIn, Cond.selects RX1 yX1_areSoIn yX1_areSoIn, Cond.initialized RX1, Cond.code yX1_areSoIn cX1_areSoIn 4 (some .boolean), Cond.fieldLink RX1 22 "WaterConsent$Readings" "count" "I", Cond.fieldLink RX1 15 "WaterConsent$Readings" "level" "[I", Cond.fieldLink RX1 9 "WaterConsent$Readings" "reach" "[I"]
def wsX5_limits_r3 : List Cond := [Cond.fieldLink RX1 18 "WaterConsent$Readings" "did" "[Z", Cond.methodLink RX1 26 yX0_levelOf, Cond.methodLink RX1 32 yX0_wantOf, Cond.instanceMethod yX0_wantOf, Cond.selects RX0 yX0_wantOf yX0_wantOf, Cond.code yX0_wantOf cX0_wantOf 3 (some .int), Cond.methodLink RX0 37 Lib.Math.max.name, Cond.static Lib.Math.max.name, Cond.initialized "java/lang/Math", Cond.code Lib.Math.max.name Lib.Math.max.code 2 (some .int)]
def wsX5_limits : List Cond := .code yX5_limits cX5_limits 2 (some .int) :: ((wsX5_limits_r1 ++ (wsX5_limits_r2 ++ wsX5_limits_r3)) ++ wsX50 ++ wsX00 ++ wsX10)
def wsX5_kinds_r1 : List Cond := [Cond.methodLink RX5 174 yX5_numbersThatFit, Cond.instanceMethod yX5_numbersThatFit, Cond.selects RX5 yX5_numbersThatFit yX5_numbersThatFit, Cond.initialized RX5, Cond.code yX5_numbersThatFit cX5_numbersThatFit 6 (some .int), Cond.fieldLink RX5 20 "WaterConsent" "canal" "LWaterConsent$Canal;", Cond.fieldLink RX5 24 "WaterConsent" "trial" "LWaterConsent$Canal;", Cond.fieldLink RX5 30 "WaterConsent" "readings" "LWaterConsent$Readings;", Cond.methodLink RX5 76 yX0_has, Cond.instanceMethod yX0_has, Cond.selects RX0 yX0_has yX0_has, Cond.initialized RX0, Cond.code yX0_has cX0_has 2 (some .boolean), Cond.fieldLink RX0 21 "WaterConsent$Canal" "count" "I", Cond.methodLink RX5 130 yX0_takeOver, Cond.instanceMethod yX0_takeOver, Cond.selects RX0 yX0_takeOver yX0_takeOver, Cond.code yX0_takeOver cX0_takeOver 3 none, Cond.fieldLink RX0 46 "WaterConsent$Canal" "rain" "I", Cond.methodLink RX0 43 yX0_kindOf, Cond.instanceMethod yX0_kindOf, Cond.selects RX0 yX0_kindOf yX0_kindOf, Cond.code yX0_kindOf cX0_kindOf 2 (some .int), Cond.fieldLink RX0 9 "WaterConsent$Canal" "kind" "[I"]
def wsX5_kinds_r2 : List Cond := [Cond.methodLink RX0 25 yX0_has, Cond.methodLink RX0 49 yX0_become, Cond.instanceMethod yX0_become, Cond.selects RX0 yX0_become yX0_become, Cond.code yX0_become cX0_become 4 none, Cond.fieldLink RX0 15 "WaterConsent$Canal" "level" "[I", Cond.fieldLink RX0 18 "WaterConsent$Canal" "limit" "[I", Cond.methodLink RX0 53 yX0_levelOf, Cond.instanceMethod yX0_levelOf, Cond.selects RX0 yX0_levelOf yX0_levelOf, Cond.code yX0_levelOf cX0_levelOf 2 (some .int), Cond.methodLink RX0 33 yX0_limitOf, Cond.instanceMethod yX0_limitOf, Cond.selects RX0 yX0_limitOf yX0_limitOf, Cond.code yX0_limitOf cX0_limitOf 2 (some .int), Cond.methodLink RX5 95 yX0_become, Cond.methodLink RX5 177 yX1_areSoIn, Cond.instanceMethod yX1_areSoIn, Cond.selects RX1 yX1_areSoIn yX1_areSoIn, Cond.initialized RX1, Cond.code yX1_areSoIn cX1_areSoIn 4 (some .boolean), Cond.fieldLink RX1 22 "WaterConsent$Readings" "count" "I", Cond.fieldLink RX1 15 "WaterConsent$Readings" "level" "[I", Cond.fieldLink RX1 9 "WaterConsent$Readings" "reach" "[I"]
def wsX5_kinds_r3 : List Cond := [Cond.fieldLink RX1 18 "WaterConsent$Readings" "did" "[Z", Cond.methodLink RX1 26 yX0_levelOf, Cond.methodLink RX1 32 yX0_wantOf, Cond.instanceMethod yX0_wantOf, Cond.selects RX0 yX0_wantOf yX0_wantOf, Cond.code yX0_wantOf cX0_wantOf 3 (some .int), Cond.methodLink RX0 37 Lib.Math.max.name, Cond.static Lib.Math.max.name, Cond.initialized "java/lang/Math", Cond.code Lib.Math.max.name Lib.Math.max.code 2 (some .int)]
def wsX5_kinds : List Cond := .code yX5_kinds cX5_kinds 2 (some .int) :: ((wsX5_kinds_r1 ++ (wsX5_kinds_r2 ++ wsX5_kinds_r3)) ++ wsX50 ++ wsX00 ++ wsX10)
def wsX5_levels_r1 : List Cond := [Cond.methodLink RX5 174 yX5_numbersThatFit, Cond.instanceMethod yX5_numbersThatFit, Cond.selects RX5 yX5_numbersThatFit yX5_numbersThatFit, Cond.initialized RX5, Cond.code yX5_numbersThatFit cX5_numbersThatFit 6 (some .int), Cond.fieldLink RX5 20 "WaterConsent" "canal" "LWaterConsent$Canal;", Cond.fieldLink RX5 24 "WaterConsent" "trial" "LWaterConsent$Canal;", Cond.fieldLink RX5 30 "WaterConsent" "readings" "LWaterConsent$Readings;", Cond.methodLink RX5 76 yX0_has, Cond.instanceMethod yX0_has, Cond.selects RX0 yX0_has yX0_has, Cond.initialized RX0, Cond.code yX0_has cX0_has 2 (some .boolean), Cond.fieldLink RX0 21 "WaterConsent$Canal" "count" "I", Cond.methodLink RX5 130 yX0_takeOver, Cond.instanceMethod yX0_takeOver, Cond.selects RX0 yX0_takeOver yX0_takeOver, Cond.code yX0_takeOver cX0_takeOver 3 none, Cond.fieldLink RX0 46 "WaterConsent$Canal" "rain" "I", Cond.methodLink RX0 43 yX0_kindOf, Cond.instanceMethod yX0_kindOf, Cond.selects RX0 yX0_kindOf yX0_kindOf, Cond.code yX0_kindOf cX0_kindOf 2 (some .int), Cond.fieldLink RX0 9 "WaterConsent$Canal" "kind" "[I"]
def wsX5_levels_r2 : List Cond := [Cond.methodLink RX0 25 yX0_has, Cond.methodLink RX0 49 yX0_become, Cond.instanceMethod yX0_become, Cond.selects RX0 yX0_become yX0_become, Cond.code yX0_become cX0_become 4 none, Cond.fieldLink RX0 15 "WaterConsent$Canal" "level" "[I", Cond.fieldLink RX0 18 "WaterConsent$Canal" "limit" "[I", Cond.methodLink RX0 53 yX0_levelOf, Cond.instanceMethod yX0_levelOf, Cond.selects RX0 yX0_levelOf yX0_levelOf, Cond.code yX0_levelOf cX0_levelOf 2 (some .int), Cond.methodLink RX0 33 yX0_limitOf, Cond.instanceMethod yX0_limitOf, Cond.selects RX0 yX0_limitOf yX0_limitOf, Cond.code yX0_limitOf cX0_limitOf 2 (some .int), Cond.methodLink RX5 95 yX0_become, Cond.methodLink RX5 177 yX1_areSoIn, Cond.instanceMethod yX1_areSoIn, Cond.selects RX1 yX1_areSoIn yX1_areSoIn, Cond.initialized RX1, Cond.code yX1_areSoIn cX1_areSoIn 4 (some .boolean), Cond.fieldLink RX1 22 "WaterConsent$Readings" "count" "I", Cond.fieldLink RX1 15 "WaterConsent$Readings" "level" "[I", Cond.fieldLink RX1 9 "WaterConsent$Readings" "reach" "[I"]
def wsX5_levels_r3 : List Cond := [Cond.fieldLink RX1 18 "WaterConsent$Readings" "did" "[Z", Cond.methodLink RX1 26 yX0_levelOf, Cond.methodLink RX1 32 yX0_wantOf, Cond.instanceMethod yX0_wantOf, Cond.selects RX0 yX0_wantOf yX0_wantOf, Cond.code yX0_wantOf cX0_wantOf 3 (some .int), Cond.methodLink RX0 37 Lib.Math.max.name, Cond.static Lib.Math.max.name, Cond.initialized "java/lang/Math", Cond.code Lib.Math.max.name Lib.Math.max.code 2 (some .int)]
def wsX5_levels : List Cond := .code yX5_levels cX5_levels 2 (some .int) :: ((wsX5_levels_r1 ++ (wsX5_levels_r2 ++ wsX5_levels_r3)) ++ wsX50 ++ wsX00 ++ wsX10)
def wsJ6_bitCount_0f7a4 : List Cond := .code yJ6_bitCount_0f7a4 cJ6_bitCount_0f7a4 1 (some .int) :: ([.constant RJ6 265 (1431655765), .constant RJ6 266 (858993459), .constant RJ6 267 (252645135)])
def wsX5_levelBehindRain : List Cond := .code yX5_levelBehindRain cX5_levelBehindRain 2 (some .int) :: ([.fieldLink RX5 20 "WaterConsent" "canal" "LWaterConsent$Canal;", .fieldLink RX5 103 "WaterConsent$Canal" "rain" "I", .methodLink RX5 195 Lib.Math.min.name, .static Lib.Math.min.name, .initialized "java/lang/Math", .code Lib.Math.min.name Lib.Math.min.code 2 (some .int), .methodLink RX5 82 yX0_levelOf, .instanceMethod yX0_levelOf, .selects RX0 yX0_levelOf yX0_levelOf, .initialized RX0, .code yX0_levelOf cX0_levelOf 2 (some .int), .fieldLink RX0 15 "WaterConsent$Canal" "level" "[I", .methodLink RX0 25 yX0_has, .instanceMethod yX0_has, .selects RX0 yX0_has yX0_has, .code yX0_has cX0_has 2 (some .boolean), .fieldLink RX0 21 "WaterConsent$Canal" "count" "I"] ++ wsX50 ++ wsX00)
def wsX5_greatestCommon : List Cond := .code yX5_greatestCommon cX5_greatestCommon 6 (some .int) :: ([])
def wsX5_odds_r1 : List Cond := [Cond.fieldLink RX5 20 "WaterConsent" "canal" "LWaterConsent$Canal;", Cond.constantLong RX5 181 (-9223372036854775808), Cond.methodLink RX5 99 yX0_isNone, Cond.instanceMethod yX0_isNone, Cond.selects RX0 yX0_isNone yX0_isNone, Cond.initialized RX0, Cond.code yX0_isNone cX0_isNone 1 (some .boolean), Cond.fieldLink RX0 21 "WaterConsent$Canal" "count" "I", Cond.methodLink RX5 91 yX5_isFrom0To, Cond.static yX5_isFrom0To, Cond.initialized RX5, Cond.code yX5_isFrom0To cX5_isFrom0To 2 (some .boolean), Cond.methodLink RX5 183 yJ6_bitCount_0f7a4, Cond.static yJ6_bitCount_0f7a4, Cond.initialized RJ6, Cond.code yJ6_bitCount_0f7a4 cJ6_bitCount_0f7a4 1 (some .int), Cond.constant RJ6 265 (1431655765), Cond.constant RJ6 266 (858993459), Cond.constant RJ6 267 (252645135), Cond.methodLink RX5 188 yX5_levelBehindRain, Cond.instanceMethod yX5_levelBehindRain, Cond.selects RX5 yX5_levelBehindRain yX5_levelBehindRain, Cond.code yX5_levelBehindRain cX5_levelBehindRain 2 (some .int), Cond.fieldLink RX5 103 "WaterConsent$Canal" "rain" "I"]
def wsX5_odds_r2 : List Cond := [Cond.methodLink RX5 195 Lib.Math.min.name, Cond.static Lib.Math.min.name, Cond.initialized "java/lang/Math", Cond.code Lib.Math.min.name Lib.Math.min.code 2 (some .int), Cond.methodLink RX5 82 yX0_levelOf, Cond.instanceMethod yX0_levelOf, Cond.selects RX0 yX0_levelOf yX0_levelOf, Cond.code yX0_levelOf cX0_levelOf 2 (some .int), Cond.fieldLink RX0 15 "WaterConsent$Canal" "level" "[I", Cond.methodLink RX0 25 yX0_has, Cond.instanceMethod yX0_has, Cond.selects RX0 yX0_has yX0_has, Cond.code yX0_has cX0_has 2 (some .boolean), Cond.methodLink RX5 191 yX5_greatestCommon, Cond.static yX5_greatestCommon, Cond.code yX5_greatestCommon cX5_greatestCommon 6 (some .int)]
def wsX5_odds : List Cond := .code yX5_odds cX5_odds 7 (some .long) :: ((wsX5_odds_r1 ++ wsX5_odds_r2) ++ wsX50 ++ wsX00)
def wsX5_sheet_r1 : List Cond := [Cond.fieldLink RX5 42 "WaterConsent" "fault" "I", Cond.methodLink RX5 46 yX5_sheetAt, Cond.instanceMethod yX5_sheetAt, Cond.selects RX5 yX5_sheetAt yX5_sheetAt, Cond.initialized RX5, Cond.code yX5_sheetAt cX5_sheetAt 2 (some (.object "WaterConsent$Sheet")), Cond.fieldLink RX5 13 "WaterConsent" "sheets" "[LWaterConsent$Sheet;", Cond.methodLink RX5 50 yX5_isLane, Cond.static yX5_isLane, Cond.code yX5_isLane cX5_isLane 1 (some .boolean), Cond.methodLink RX5 58 yX5_faulted, Cond.instanceMethod yX5_faulted, Cond.selects RX5 yX5_faulted yX5_faulted, Cond.code yX5_faulted cX5_faulted 2 (some .int), Cond.methodLink RX5 200 yX3_becomeNew, Cond.instanceMethod yX3_becomeNew, Cond.selects RX3 yX3_becomeNew yX3_becomeNew, Cond.initialized RX3, Cond.code yX3_becomeNew cX3_becomeNew 3 none, Cond.fieldLink RX3 15 "WaterConsent$Sheet" "there" "Z", Cond.fieldLink RX3 19 "WaterConsent$Sheet" "lane" "I", Cond.fieldLink RX3 23 "WaterConsent$Sheet" "count" "I", Cond.fieldLink RX3 9 "WaterConsent$Sheet" "cells" "[I", Cond.methodLink RX3 26 yJ7_fill_53178]
def wsX5_sheet_r2 : List Cond := [Cond.static yJ7_fill_53178, Cond.initialized RJ7, Cond.code yJ7_fill_53178 cJ7_fill_53178 4 none]
def wsX5_sheet : List Cond := .code yX5_sheet cX5_sheet 5 (some .int) :: ((wsX5_sheet_r1 ++ wsX5_sheet_r2) ++ wsX50 ++ wsX30)
def wsX5_lose : List Cond := .code yX5_lose cX5_lose 4 (some .int) :: ([.fieldLink RX5 203 "WaterConsent$Sheet" "there" "Z", .methodLink RX5 46 yX5_sheetAt, .instanceMethod yX5_sheetAt, .selects RX5 yX5_sheetAt yX5_sheetAt, .initialized RX5, .code yX5_sheetAt cX5_sheetAt 2 (some (.object "WaterConsent$Sheet")), .fieldLink RX5 13 "WaterConsent" "sheets" "[LWaterConsent$Sheet;"] ++ wsX30 ++ wsX50)
def wsX5_put_r1 : List Cond := [Cond.fieldLink RX5 42 "WaterConsent" "fault" "I", Cond.fieldLink RX5 207 "WaterConsent$Sheet" "lane" "I", Cond.methodLink RX5 46 yX5_sheetAt, Cond.instanceMethod yX5_sheetAt, Cond.selects RX5 yX5_sheetAt yX5_sheetAt, Cond.initialized RX5, Cond.code yX5_sheetAt cX5_sheetAt 2 (some (.object "WaterConsent$Sheet")), Cond.fieldLink RX5 13 "WaterConsent" "sheets" "[LWaterConsent$Sheet;", Cond.methodLink RX5 54 yX3_faultOf, Cond.instanceMethod yX3_faultOf, Cond.selects RX3 yX3_faultOf yX3_faultOf, Cond.initialized RX3, Cond.code yX3_faultOf cX3_faultOf 4 (some .int), Cond.fieldLink RX3 15 "WaterConsent$Sheet" "there" "Z", Cond.fieldLink RX3 19 "WaterConsent$Sheet" "lane" "I", Cond.methodLink RX3 32 yX3_hasCells, Cond.instanceMethod yX3_hasCells, Cond.selects RX3 yX3_hasCells yX3_hasCells, Cond.code yX3_hasCells cX3_hasCells 3 (some .boolean), Cond.fieldLink RX3 23 "WaterConsent$Sheet" "count" "I", Cond.fieldLink RX3 9 "WaterConsent$Sheet" "cells" "[I", Cond.methodLink RX5 58 yX5_faulted, Cond.instanceMethod yX5_faulted, Cond.selects RX5 yX5_faulted yX5_faulted]
def wsX5_put_r2 : List Cond := [Cond.code yX5_faulted cX5_faulted 2 (some .int), Cond.methodLink RX5 210 yX3_setCell, Cond.instanceMethod yX3_setCell, Cond.selects RX3 yX3_setCell yX3_setCell, Cond.code yX3_setCell cX3_setCell 3 none, Cond.methodLink RX3 36 yX3_cutToLane, Cond.instanceMethod yX3_cutToLane, Cond.selects RX3 yX3_cutToLane yX3_cutToLane, Cond.code yX3_cutToLane cX3_cutToLane 2 (some .int)]
def wsX5_put : List Cond := .code yX5_put cX5_put 6 (some .int) :: ((wsX5_put_r1 ++ wsX5_put_r2) ++ wsX50 ++ wsX30)
def wsX5_cell_r1 : List Cond := [Cond.fieldLink RX5 42 "WaterConsent" "fault" "I", Cond.constantLong RX5 181 (-9223372036854775808), Cond.methodLink RX5 46 yX5_sheetAt, Cond.instanceMethod yX5_sheetAt, Cond.selects RX5 yX5_sheetAt yX5_sheetAt, Cond.initialized RX5, Cond.code yX5_sheetAt cX5_sheetAt 2 (some (.object "WaterConsent$Sheet")), Cond.fieldLink RX5 13 "WaterConsent" "sheets" "[LWaterConsent$Sheet;", Cond.methodLink RX5 50 yX5_isLane, Cond.static yX5_isLane, Cond.code yX5_isLane cX5_isLane 1 (some .boolean), Cond.methodLink RX5 54 yX3_faultOf, Cond.instanceMethod yX3_faultOf, Cond.selects RX3 yX3_faultOf yX3_faultOf, Cond.initialized RX3, Cond.code yX3_faultOf cX3_faultOf 4 (some .int), Cond.fieldLink RX3 15 "WaterConsent$Sheet" "there" "Z", Cond.fieldLink RX3 19 "WaterConsent$Sheet" "lane" "I", Cond.methodLink RX3 32 yX3_hasCells, Cond.instanceMethod yX3_hasCells, Cond.selects RX3 yX3_hasCells yX3_hasCells, Cond.code yX3_hasCells cX3_hasCells 3 (some .boolean), Cond.fieldLink RX3 23 "WaterConsent$Sheet" "count" "I", Cond.fieldLink RX3 9 "WaterConsent$Sheet" "cells" "[I"]
def wsX5_cell_r2 : List Cond := [Cond.methodLink RX5 141 yX3_cellAt, Cond.instanceMethod yX3_cellAt, Cond.selects RX3 yX3_cellAt yX3_cellAt, Cond.code yX3_cellAt cX3_cellAt 2 (some .int)]
def wsX5_cell : List Cond := .code yX5_cell cX5_cell 5 (some .long) :: ((wsX5_cell_r1 ++ wsX5_cell_r2) ++ wsX50 ++ wsX30)
def wsX5_copy_r1 : List Cond := [Cond.fieldLink RX5 42 "WaterConsent" "fault" "I", Cond.fieldLink RX5 203 "WaterConsent$Sheet" "there" "Z", Cond.fieldLink RX5 207 "WaterConsent$Sheet" "lane" "I", Cond.fieldLink RX5 216 "WaterConsent$Sheet" "cells" "[I", Cond.methodLink RX5 220 arraycopyName, Cond.native arraycopyName, Cond.static arraycopyName, Cond.initialized "java/lang/System", Cond.methodLink RX5 46 yX5_sheetAt, Cond.instanceMethod yX5_sheetAt, Cond.selects RX5 yX5_sheetAt yX5_sheetAt, Cond.initialized RX5, Cond.code yX5_sheetAt cX5_sheetAt 2 (some (.object "WaterConsent$Sheet")), Cond.fieldLink RX5 13 "WaterConsent" "sheets" "[LWaterConsent$Sheet;", Cond.methodLink RX5 58 yX5_faulted, Cond.instanceMethod yX5_faulted, Cond.selects RX5 yX5_faulted yX5_faulted, Cond.code yX5_faulted cX5_faulted 2 (some .int), Cond.methodLink RX5 213 yX3_hasCells, Cond.instanceMethod yX3_hasCells, Cond.selects RX3 yX3_hasCells yX3_hasCells, Cond.initialized RX3, Cond.code yX3_hasCells cX3_hasCells 3 (some .boolean), Cond.fieldLink RX3 23 "WaterConsent$Sheet" "count" "I"]
def wsX5_copy_r2 : List Cond := [Cond.fieldLink RX3 9 "WaterConsent$Sheet" "cells" "[I"]
def wsX5_copy : List Cond := .code yX5_copy cX5_copy 8 (some .int) :: ((wsX5_copy_r1 ++ wsX5_copy_r2) ++ wsX50 ++ wsX30)
def wsX5_leave : List Cond := .code yX5_leave cX5_leave 2 none :: ([.fieldLink RX5 244 "WaterConsent" "trace" "I"] ++ wsX50)
def wsX5_tellingOfMild : List Cond := .code yX5_tellingOfMild cX5_tellingOfMild 2 (some .int) :: ([.fieldLink RX5 20 "WaterConsent" "canal" "LWaterConsent$Canal;", .methodLink RX5 235 yX5_leave, .instanceMethod yX5_leave, .selects RX5 yX5_leave yX5_leave, .initialized RX5, .code yX5_leave cX5_leave 2 none, .fieldLink RX5 244 "WaterConsent" "trace" "I", .methodLink RX5 85 yX0_limitOf, .instanceMethod yX0_limitOf, .selects RX0 yX0_limitOf yX0_limitOf, .initialized RX0, .code yX0_limitOf cX0_limitOf 2 (some .int), .fieldLink RX0 18 "WaterConsent$Canal" "limit" "[I", .methodLink RX0 25 yX0_has, .instanceMethod yX0_has, .selects RX0 yX0_has yX0_has, .code yX0_has cX0_has 2 (some .boolean), .fieldLink RX0 21 "WaterConsent$Canal" "count" "I"] ++ wsX50 ++ wsX00)
def wsX5_tellingOfProud : List Cond := .code yX5_tellingOfProud cX5_tellingOfProud 2 (some .int) :: ([.methodLink RX5 235 yX5_leave, .instanceMethod yX5_leave, .selects RX5 yX5_leave yX5_leave, .initialized RX5, .code yX5_leave cX5_leave 2 none, .fieldLink RX5 244 "WaterConsent" "trace" "I", .methodLink RX5 232 yX5_tellingOfMild, .instanceMethod yX5_tellingOfMild, .selects RX5 yX5_tellingOfMild yX5_tellingOfMild, .code yX5_tellingOfMild cX5_tellingOfMild 2 (some .int), .fieldLink RX5 20 "WaterConsent" "canal" "LWaterConsent$Canal;", .methodLink RX5 85 yX0_limitOf, .instanceMethod yX0_limitOf, .selects RX0 yX0_limitOf yX0_limitOf, .initialized RX0, .code yX0_limitOf cX0_limitOf 2 (some .int), .fieldLink RX0 18 "WaterConsent$Canal" "limit" "[I", .methodLink RX0 25 yX0_has, .instanceMethod yX0_has, .selects RX0 yX0_has yX0_has, .code yX0_has cX0_has 2 (some .boolean), .fieldLink RX0 21 "WaterConsent$Canal" "count" "I"] ++ wsX50 ++ wsX00)
def wsX5_tellingOfSulky_r1 : List Cond := [Cond.methodLink RX5 235 yX5_leave, Cond.instanceMethod yX5_leave, Cond.selects RX5 yX5_leave yX5_leave, Cond.initialized RX5, Cond.code yX5_leave cX5_leave 2 none, Cond.fieldLink RX5 244 "WaterConsent" "trace" "I", Cond.methodLink RX5 229 yX5_tellingOfProud, Cond.instanceMethod yX5_tellingOfProud, Cond.selects RX5 yX5_tellingOfProud yX5_tellingOfProud, Cond.code yX5_tellingOfProud cX5_tellingOfProud 2 (some .int), Cond.methodLink RX5 232 yX5_tellingOfMild, Cond.instanceMethod yX5_tellingOfMild, Cond.selects RX5 yX5_tellingOfMild yX5_tellingOfMild, Cond.code yX5_tellingOfMild cX5_tellingOfMild 2 (some .int), Cond.fieldLink RX5 20 "WaterConsent" "canal" "LWaterConsent$Canal;", Cond.methodLink RX5 85 yX0_limitOf, Cond.instanceMethod yX0_limitOf, Cond.selects RX0 yX0_limitOf yX0_limitOf, Cond.initialized RX0, Cond.code yX0_limitOf cX0_limitOf 2 (some .int), Cond.fieldLink RX0 18 "WaterConsent$Canal" "limit" "[I", Cond.methodLink RX0 25 yX0_has, Cond.instanceMethod yX0_has, Cond.selects RX0 yX0_has yX0_has]
def wsX5_tellingOfSulky_r2 : List Cond := [Cond.code yX0_has cX0_has 2 (some .boolean), Cond.fieldLink RX0 21 "WaterConsent$Canal" "count" "I"]
def wsX5_tellingOfSulky : List Cond := .code yX5_tellingOfSulky cX5_tellingOfSulky 3 (some .int) :: ((wsX5_tellingOfSulky_r1 ++ wsX5_tellingOfSulky_r2) ++ wsX50 ++ wsX00)
def wsX5_tell_r1 : List Cond := [Cond.fieldLink RX5 20 "WaterConsent" "canal" "LWaterConsent$Canal;", Cond.methodLink RX5 76 yX0_has, Cond.instanceMethod yX0_has, Cond.selects RX0 yX0_has yX0_has, Cond.initialized RX0, Cond.code yX0_has cX0_has 2 (some .boolean), Cond.fieldLink RX0 21 "WaterConsent$Canal" "count" "I", Cond.methodLink RX5 79 yX0_kindOf, Cond.instanceMethod yX0_kindOf, Cond.selects RX0 yX0_kindOf yX0_kindOf, Cond.code yX0_kindOf cX0_kindOf 2 (some .int), Cond.fieldLink RX0 9 "WaterConsent$Canal" "kind" "[I", Cond.methodLink RX0 25 yX0_has, Cond.methodLink RX5 226 yX5_tellingOfSulky, Cond.instanceMethod yX5_tellingOfSulky, Cond.selects RX5 yX5_tellingOfSulky yX5_tellingOfSulky, Cond.initialized RX5, Cond.code yX5_tellingOfSulky cX5_tellingOfSulky 3 (some .int), Cond.methodLink RX5 235 yX5_leave, Cond.instanceMethod yX5_leave, Cond.selects RX5 yX5_leave yX5_leave, Cond.code yX5_leave cX5_leave 2 none, Cond.fieldLink RX5 244 "WaterConsent" "trace" "I", Cond.methodLink RX5 229 yX5_tellingOfProud]
def wsX5_tell_r2 : List Cond := [Cond.instanceMethod yX5_tellingOfProud, Cond.selects RX5 yX5_tellingOfProud yX5_tellingOfProud, Cond.code yX5_tellingOfProud cX5_tellingOfProud 2 (some .int), Cond.methodLink RX5 232 yX5_tellingOfMild, Cond.instanceMethod yX5_tellingOfMild, Cond.selects RX5 yX5_tellingOfMild yX5_tellingOfMild, Cond.code yX5_tellingOfMild cX5_tellingOfMild 2 (some .int), Cond.methodLink RX5 85 yX0_limitOf, Cond.instanceMethod yX0_limitOf, Cond.selects RX0 yX0_limitOf yX0_limitOf, Cond.code yX0_limitOf cX0_limitOf 2 (some .int), Cond.fieldLink RX0 18 "WaterConsent$Canal" "limit" "[I"]
def wsX5_tell : List Cond := .code yX5_tell cX5_tell 2 (some .int) :: ((wsX5_tell_r1 ++ wsX5_tell_r2) ++ wsX50 ++ wsX00)
def wsX5_flatteryOfSulky : List Cond := .code yX5_flatteryOfSulky cX5_flatteryOfSulky 1 (some .int) :: ([.methodLink RX5 235 yX5_leave, .instanceMethod yX5_leave, .selects RX5 yX5_leave yX5_leave, .initialized RX5, .code yX5_leave cX5_leave 2 none, .fieldLink RX5 244 "WaterConsent" "trace" "I"] ++ wsX50)
def wsX5_flatteryLent : List Cond := .code yX5_flatteryLent cX5_flatteryLent 2 (some .int) :: ([.methodLink RX5 235 yX5_leave, .instanceMethod yX5_leave, .selects RX5 yX5_leave yX5_leave, .initialized RX5, .code yX5_leave cX5_leave 2 none, .fieldLink RX5 244 "WaterConsent" "trace" "I"] ++ wsX50)
def wsX5_flatter_r1 : List Cond := [Cond.fieldLink RX5 20 "WaterConsent" "canal" "LWaterConsent$Canal;", Cond.methodLink RX5 76 yX0_has, Cond.instanceMethod yX0_has, Cond.selects RX0 yX0_has yX0_has, Cond.initialized RX0, Cond.code yX0_has cX0_has 2 (some .boolean), Cond.fieldLink RX0 21 "WaterConsent$Canal" "count" "I", Cond.methodLink RX5 79 yX0_kindOf, Cond.instanceMethod yX0_kindOf, Cond.selects RX0 yX0_kindOf yX0_kindOf, Cond.code yX0_kindOf cX0_kindOf 2 (some .int), Cond.fieldLink RX0 9 "WaterConsent$Canal" "kind" "[I", Cond.methodLink RX0 25 yX0_has, Cond.methodLink RX5 238 yX5_flatteryOfSulky, Cond.instanceMethod yX5_flatteryOfSulky, Cond.selects RX5 yX5_flatteryOfSulky yX5_flatteryOfSulky, Cond.initialized RX5, Cond.code yX5_flatteryOfSulky cX5_flatteryOfSulky 1 (some .int), Cond.methodLink RX5 235 yX5_leave, Cond.instanceMethod yX5_leave, Cond.selects RX5 yX5_leave yX5_leave, Cond.code yX5_leave cX5_leave 2 none, Cond.fieldLink RX5 244 "WaterConsent" "trace" "I", Cond.methodLink RX5 241 yX5_flatteryLent]
def wsX5_flatter_r2 : List Cond := [Cond.instanceMethod yX5_flatteryLent, Cond.selects RX5 yX5_flatteryLent yX5_flatteryLent, Cond.code yX5_flatteryLent cX5_flatteryLent 2 (some .int)]
def wsX5_flatter : List Cond := .code yX5_flatter cX5_flatter 2 (some .int) :: ((wsX5_flatter_r1 ++ wsX5_flatter_r2) ++ wsX50 ++ wsX00)
def wsX5_as : List Cond := .code yX5_as cX5_as 3 (some .int) :: ([.fieldLink RX5 42 "WaterConsent" "fault" "I", .fieldLink RX5 20 "WaterConsent" "canal" "LWaterConsent$Canal;", .methodLink RX5 76 yX0_has, .instanceMethod yX0_has, .selects RX0 yX0_has yX0_has, .initialized RX0, .code yX0_has cX0_has 2 (some .boolean), .fieldLink RX0 21 "WaterConsent$Canal" "count" "I", .methodLink RX5 91 yX5_isFrom0To, .static yX5_isFrom0To, .initialized RX5, .code yX5_isFrom0To cX5_isFrom0To 2 (some .boolean), .methodLink RX5 79 yX0_kindOf, .instanceMethod yX0_kindOf, .selects RX0 yX0_kindOf yX0_kindOf, .code yX0_kindOf cX0_kindOf 2 (some .int), .fieldLink RX0 9 "WaterConsent$Canal" "kind" "[I", .methodLink RX0 25 yX0_has, .methodLink RX5 58 yX5_faulted, .instanceMethod yX5_faulted, .selects RX5 yX5_faulted yX5_faulted, .code yX5_faulted cX5_faulted 2 (some .int)] ++ wsX50 ++ wsX00)
def wsX5_trace : List Cond := .code yX5_trace cX5_trace 1 (some .int) :: ([.fieldLink RX5 244 "WaterConsent" "trace" "I"] ++ wsX50)
def wsX5_fault : List Cond := .code yX5_fault cX5_fault 1 (some .int) :: ([.fieldLink RX5 42 "WaterConsent" "fault" "I"] ++ wsX50)
def wsX5_many : List Cond := .code yX5_many cX5_many 2 (some .int) :: ([.fieldLink RX5 20 "WaterConsent" "canal" "LWaterConsent$Canal;", .fieldLink RX5 75 "WaterConsent$Canal" "count" "I", .fieldLink RX5 103 "WaterConsent$Canal" "rain" "I", .fieldLink RX5 30 "WaterConsent" "readings" "LWaterConsent$Readings;", .fieldLink RX5 72 "WaterConsent$Readings" "count" "I", .methodLink RX5 147 yX0_levelsTogether, .instanceMethod yX0_levelsTogether, .selects RX0 yX0_levelsTogether yX0_levelsTogether, .initialized RX0, .code yX0_levelsTogether cX0_levelsTogether 3 (some .int), .fieldLink RX0 21 "WaterConsent$Canal" "count" "I", .methodLink RX0 53 yX0_levelOf, .instanceMethod yX0_levelOf, .selects RX0 yX0_levelOf yX0_levelOf, .code yX0_levelOf cX0_levelOf 2 (some .int), .fieldLink RX0 15 "WaterConsent$Canal" "level" "[I", .methodLink RX0 25 yX0_has, .instanceMethod yX0_has, .selects RX0 yX0_has yX0_has, .code yX0_has cX0_has 2 (some .boolean)] ++ wsX50 ++ wsX00 ++ wsX10)
def wsX6_init : List Cond := .code yX6_init cX6_init 2 none :: ([.methodLink RX6 1 objectInit, .instanceMethod objectInit, .code objectInit ⟨#[0xb1]⟩ 1 none, .arrayClass .int, .fieldLink RX6 7 "WaterConsentModel" "kindOf" "[I", .fieldLink RX6 13 "WaterConsentModel" "levelOf" "[I", .fieldLink RX6 16 "WaterConsentModel" "limitOf" "[I", .fieldLink RX6 19 "WaterConsentModel" "readKind" "[I", .fieldLink RX6 22 "WaterConsentModel" "readLevel" "[I", .fieldLink RX6 25 "WaterConsentModel" "readLimit" "[I", .fieldLink RX6 28 "WaterConsentModel" "levelNow" "[I", .constant RX6 31 (40000), .fieldLink RX6 32 "WaterConsentModel" "cameBy" "[I", .fieldLink RX6 35 "WaterConsentModel" "queue" "[I", .fieldLink RX6 38 "WaterConsentModel" "rowFound" "[I", .fieldLink RX6 41 "WaterConsentModel" "readingOf" "[I", .fieldLink RX6 44 "WaterConsentModel" "readingAt" "[I", .arrayClass .boolean, .fieldLink RX6 47 "WaterConsentModel" "readingDid" "[Z", .fieldLink RX6 51 "WaterConsentModel" "sheetSize" "[I", .fieldLink RX6 54 "WaterConsentModel" "sheetLane" "[I", .fieldLink RX6 57 "WaterConsentModel" "sheet" "[I", .fieldLink RX6 60 "WaterConsentModel" "hands" "[I"] ++ wsX60)
def wsX6_in : List Cond := .code yX6_in cX6_in 6 (some .boolean) :: ([])
def wsX6_lost : List Cond := .code yX6_lost cX6_lost 0 (some .long) :: ([.constantLong RX6 63 (-9223372036854775808)])
def wsX6_share : List Cond := .code yX6_share cX6_share 11 (some .long) :: ([])
def wsX6_refused : List Cond := .code yX6_refused cX6_refused 2 (some .int) :: ([.fieldLink RX6 65 "WaterConsentModel" "fault" "I"] ++ wsX60)
def wsX6_failed : List Cond := .code yX6_failed cX6_failed 2 (some .int) :: ([.fieldLink RX6 65 "WaterConsentModel" "fault" "I"] ++ wsX60)
def wsX6_failedLong : List Cond := .code yX6_failedLong cX6_failedLong 2 (some .long) :: ([.fieldLink RX6 65 "WaterConsentModel" "fault" "I", .methodLink RX6 69 yX6_lost, .static yX6_lost, .initialized RX6, .code yX6_lost cX6_lost 0 (some .long), .constantLong RX6 63 (-9223372036854775808)] ++ wsX60)
def wsX6_noReach : List Cond := .code yX6_noReach cX6_noReach 2 (some .boolean) :: ([.fieldLink RX6 73 "WaterConsentModel" "reaches" "I", .methodLink RX6 76 yX6_in, .static yX6_in, .initialized RX6, .code yX6_in cX6_in 6 (some .boolean)] ++ wsX60)
def wsX6_codeAt : List Cond := .code yX6_codeAt cX6_codeAt 3 (some .int) :: ([.fieldLink RX6 80 "WaterConsentModel" "readAt" "I", .fieldLink RX6 57 "WaterConsentModel" "sheet" "[I"] ++ wsX60)
def wsX6_figure : List Cond := .code yX6_figure cX6_figure 6 (some .int) :: ([.fieldLink RX6 80 "WaterConsentModel" "readAt" "I", .methodLink RX6 83 yX6_codeAt, .instanceMethod yX6_codeAt, .selects RX6 yX6_codeAt yX6_codeAt, .initialized RX6, .code yX6_codeAt cX6_codeAt 3 (some .int), .fieldLink RX6 57 "WaterConsentModel" "sheet" "[I", .methodLink RX6 76 yX6_in, .static yX6_in, .code yX6_in cX6_in 6 (some .boolean)] ++ wsX60)
def wsX6_readsReach : List Cond := .code yX6_readsReach cX6_readsReach 6 (some .boolean) :: ([.fieldLink RX6 87 "WaterConsentModel" "readReaches" "I", .fieldLink RX6 80 "WaterConsentModel" "readAt" "I", .fieldLink RX6 19 "WaterConsentModel" "readKind" "[I", .fieldLink RX6 22 "WaterConsentModel" "readLevel" "[I", .fieldLink RX6 25 "WaterConsentModel" "readLimit" "[I", .methodLink RX6 83 yX6_codeAt, .instanceMethod yX6_codeAt, .selects RX6 yX6_codeAt yX6_codeAt, .initialized RX6, .code yX6_codeAt cX6_codeAt 3 (some .int), .fieldLink RX6 57 "WaterConsentModel" "sheet" "[I", .methodLink RX6 90 yX6_figure, .instanceMethod yX6_figure, .selects RX6 yX6_figure yX6_figure, .code yX6_figure cX6_figure 6 (some .int), .methodLink RX6 76 yX6_in, .static yX6_in, .code yX6_in cX6_in 6 (some .boolean)] ++ wsX60)
def wsX6_readsCanal : List Cond := .code yX6_readsCanal cX6_readsCanal 4 (some .boolean) :: ([.fieldLink RX6 80 "WaterConsentModel" "readAt" "I", .fieldLink RX6 87 "WaterConsentModel" "readReaches" "I", .fieldLink RX6 94 "WaterConsentModel" "readRain" "I", .methodLink RX6 83 yX6_codeAt, .instanceMethod yX6_codeAt, .selects RX6 yX6_codeAt yX6_codeAt, .initialized RX6, .code yX6_codeAt cX6_codeAt 3 (some .int), .fieldLink RX6 57 "WaterConsentModel" "sheet" "[I", .methodLink RX6 90 yX6_figure, .instanceMethod yX6_figure, .selects RX6 yX6_figure yX6_figure, .code yX6_figure cX6_figure 6 (some .int), .methodLink RX6 76 yX6_in, .static yX6_in, .code yX6_in cX6_in 6 (some .boolean), .methodLink RX6 97 yX6_readsReach, .instanceMethod yX6_readsReach, .selects RX6 yX6_readsReach yX6_readsReach, .code yX6_readsReach cX6_readsReach 6 (some .boolean), .fieldLink RX6 19 "WaterConsentModel" "readKind" "[I", .fieldLink RX6 22 "WaterConsentModel" "readLevel" "[I", .fieldLink RX6 25 "WaterConsentModel" "readLimit" "[I"] ++ wsX60)
def wsX6_isBeyond : List Cond := .code yX6_isBeyond cX6_isBeyond 4 (some .boolean) :: ([])
def wsX6_cellsBarred : List Cond := .code yX6_cellsBarred cX6_cellsBarred 6 (some .int) :: ([.fieldLink RX6 51 "WaterConsentModel" "sheetSize" "[I", .fieldLink RX6 54 "WaterConsentModel" "sheetLane" "[I", .methodLink RX6 101 yX6_failed, .instanceMethod yX6_failed, .selects RX6 yX6_failed yX6_failed, .initialized RX6, .code yX6_failed cX6_failed 2 (some .int), .fieldLink RX6 65 "WaterConsentModel" "fault" "I", .methodLink RX6 105 yX6_isBeyond, .static yX6_isBeyond, .code yX6_isBeyond cX6_isBeyond 4 (some .boolean)] ++ wsX60)
def wsX6_noSheet : List Cond := .code yX6_noSheet cX6_noSheet 1 (some .boolean) :: ([.constantLong RX6 139 (3), .methodLink RX6 76 yX6_in, .static yX6_in, .initialized RX6, .code yX6_in cX6_in 6 (some .boolean)])
def wsX6_canal_r1 : List Cond := [Cond.constantLong RX6 116 (2), Cond.fieldLink RX6 80 "WaterConsentModel" "readAt" "I", Cond.fieldLink RX6 94 "WaterConsentModel" "readRain" "I", Cond.fieldLink RX6 125 "WaterConsentModel" "rainNow" "I", Cond.fieldLink RX6 87 "WaterConsentModel" "readReaches" "I", Cond.fieldLink RX6 73 "WaterConsentModel" "reaches" "I", Cond.fieldLink RX6 7 "WaterConsentModel" "kindOf" "[I", Cond.fieldLink RX6 19 "WaterConsentModel" "readKind" "[I", Cond.fieldLink RX6 13 "WaterConsentModel" "levelOf" "[I", Cond.fieldLink RX6 22 "WaterConsentModel" "readLevel" "[I", Cond.fieldLink RX6 16 "WaterConsentModel" "limitOf" "[I", Cond.fieldLink RX6 25 "WaterConsentModel" "readLimit" "[I", Cond.fieldLink RX6 128 "WaterConsentModel" "readings" "I", Cond.methodLink RX6 109 yX6_noSheet, Cond.static yX6_noSheet, Cond.initialized RX6, Cond.code yX6_noSheet cX6_noSheet 1 (some .boolean), Cond.constantLong RX6 139 (3), Cond.methodLink RX6 76 yX6_in, Cond.static yX6_in, Cond.code yX6_in cX6_in 6 (some .boolean), Cond.methodLink RX6 113 yX6_refused, Cond.instanceMethod yX6_refused, Cond.selects RX6 yX6_refused yX6_refused]
def wsX6_canal_r2 : List Cond := [Cond.code yX6_refused cX6_refused 2 (some .int), Cond.fieldLink RX6 65 "WaterConsentModel" "fault" "I", Cond.methodLink RX6 118 yX6_cellsBarred, Cond.instanceMethod yX6_cellsBarred, Cond.selects RX6 yX6_cellsBarred yX6_cellsBarred, Cond.code yX6_cellsBarred cX6_cellsBarred 6 (some .int), Cond.fieldLink RX6 51 "WaterConsentModel" "sheetSize" "[I", Cond.fieldLink RX6 54 "WaterConsentModel" "sheetLane" "[I", Cond.methodLink RX6 101 yX6_failed, Cond.instanceMethod yX6_failed, Cond.selects RX6 yX6_failed yX6_failed, Cond.code yX6_failed cX6_failed 2 (some .int), Cond.methodLink RX6 105 yX6_isBeyond, Cond.static yX6_isBeyond, Cond.code yX6_isBeyond cX6_isBeyond 4 (some .boolean), Cond.methodLink RX6 122 yX6_readsCanal, Cond.instanceMethod yX6_readsCanal, Cond.selects RX6 yX6_readsCanal yX6_readsCanal, Cond.code yX6_readsCanal cX6_readsCanal 4 (some .boolean), Cond.methodLink RX6 83 yX6_codeAt, Cond.instanceMethod yX6_codeAt, Cond.selects RX6 yX6_codeAt yX6_codeAt, Cond.code yX6_codeAt cX6_codeAt 3 (some .int), Cond.fieldLink RX6 57 "WaterConsentModel" "sheet" "[I"]
def wsX6_canal_r3 : List Cond := [Cond.methodLink RX6 90 yX6_figure, Cond.instanceMethod yX6_figure, Cond.selects RX6 yX6_figure yX6_figure, Cond.code yX6_figure cX6_figure 6 (some .int), Cond.methodLink RX6 97 yX6_readsReach, Cond.instanceMethod yX6_readsReach, Cond.selects RX6 yX6_readsReach yX6_readsReach, Cond.code yX6_readsReach cX6_readsReach 6 (some .boolean)]
def wsX6_canal : List Cond := .code yX6_canal cX6_canal 7 (some .int) :: ((wsX6_canal_r1 ++ (wsX6_canal_r2 ++ wsX6_canal_r3)) ++ wsX60)
def wsX6_wantOf : List Cond := .code yX6_wantOf cX6_wantOf 3 (some .int) :: ([.fieldLink RX6 16 "WaterConsentModel" "limitOf" "[I", .fieldLink RX6 7 "WaterConsentModel" "kindOf" "[I"] ++ wsX60)
def wsX6_ofReach : List Cond := .code yX6_ofReach cX6_ofReach 3 (some .int) :: ([.fieldLink RX6 7 "WaterConsentModel" "kindOf" "[I", .fieldLink RX6 13 "WaterConsentModel" "levelOf" "[I", .fieldLink RX6 16 "WaterConsentModel" "limitOf" "[I", .methodLink RX6 131 yX6_noReach, .instanceMethod yX6_noReach, .selects RX6 yX6_noReach yX6_noReach, .initialized RX6, .code yX6_noReach cX6_noReach 2 (some .boolean), .fieldLink RX6 73 "WaterConsentModel" "reaches" "I", .methodLink RX6 76 yX6_in, .static yX6_in, .code yX6_in cX6_in 6 (some .boolean), .methodLink RX6 134 yX6_wantOf, .instanceMethod yX6_wantOf, .selects RX6 yX6_wantOf yX6_wantOf, .code yX6_wantOf cX6_wantOf 3 (some .int)] ++ wsX60)
def wsX6_fill : List Cond := .code yX6_fill cX6_fill 4 (some .int) :: ([.constantLong RX6 137 (9), .fieldLink RX6 13 "WaterConsentModel" "levelOf" "[I", .methodLink RX6 131 yX6_noReach, .instanceMethod yX6_noReach, .selects RX6 yX6_noReach yX6_noReach, .initialized RX6, .code yX6_noReach cX6_noReach 2 (some .boolean), .fieldLink RX6 73 "WaterConsentModel" "reaches" "I", .methodLink RX6 76 yX6_in, .static yX6_in, .code yX6_in cX6_in 6 (some .boolean)] ++ wsX60)
def wsX6_rain : List Cond := .code yX6_rain cX6_rain 3 (some .int) :: ([.constantLong RX6 139 (3), .fieldLink RX6 73 "WaterConsentModel" "reaches" "I", .fieldLink RX6 125 "WaterConsentModel" "rainNow" "I", .methodLink RX6 76 yX6_in, .static yX6_in, .initialized RX6, .code yX6_in cX6_in 6 (some .boolean)] ++ wsX60)
def wsX6_begin : List Cond := .code yX6_begin cX6_begin 2 none :: ([.fieldLink RX6 73 "WaterConsentModel" "reaches" "I", .fieldLink RX6 28 "WaterConsentModel" "levelNow" "[I", .fieldLink RX6 13 "WaterConsentModel" "levelOf" "[I"] ++ wsX60)
def wsX6_end : List Cond := .code yX6_end cX6_end 2 none :: ([.fieldLink RX6 73 "WaterConsentModel" "reaches" "I", .fieldLink RX6 13 "WaterConsentModel" "levelOf" "[I", .fieldLink RX6 28 "WaterConsentModel" "levelNow" "[I"] ++ wsX60)
def wsX6_mayOpen : List Cond := .code yX6_mayOpen cX6_mayOpen 2 (some .boolean) :: ([.fieldLink RX6 28 "WaterConsentModel" "levelNow" "[I", .methodLink RX6 134 yX6_wantOf, .instanceMethod yX6_wantOf, .selects RX6 yX6_wantOf yX6_wantOf, .initialized RX6, .code yX6_wantOf cX6_wantOf 3 (some .int), .fieldLink RX6 16 "WaterConsentModel" "limitOf" "[I", .fieldLink RX6 7 "WaterConsentModel" "kindOf" "[I"] ++ wsX60)
def wsX6_gatesNow : List Cond := .code yX6_gatesNow cX6_gatesNow 3 (some .int) :: ([.fieldLink RX6 73 "WaterConsentModel" "reaches" "I", .methodLink RX6 141 yX6_mayOpen, .instanceMethod yX6_mayOpen, .selects RX6 yX6_mayOpen yX6_mayOpen, .initialized RX6, .code yX6_mayOpen cX6_mayOpen 2 (some .boolean), .fieldLink RX6 28 "WaterConsentModel" "levelNow" "[I", .methodLink RX6 134 yX6_wantOf, .instanceMethod yX6_wantOf, .selects RX6 yX6_wantOf yX6_wantOf, .code yX6_wantOf cX6_wantOf 3 (some .int), .fieldLink RX6 16 "WaterConsentModel" "limitOf" "[I", .fieldLink RX6 7 "WaterConsentModel" "kindOf" "[I"] ++ wsX60)
def wsX6_goNight : List Cond := .code yX6_goNight cX6_goNight 2 none :: ([.fieldLink RX6 28 "WaterConsentModel" "levelNow" "[I", .fieldLink RX6 125 "WaterConsentModel" "rainNow" "I", .fieldLink RX6 73 "WaterConsentModel" "reaches" "I"] ++ wsX60)
def wsX6_does : List Cond := .code yX6_does cX6_does 2 (some .boolean) :: ([.fieldLink RX6 73 "WaterConsentModel" "reaches" "I", .fieldLink RX6 28 "WaterConsentModel" "levelNow" "[I", .methodLink RX6 144 yX6_goNight, .instanceMethod yX6_goNight, .selects RX6 yX6_goNight yX6_goNight, .initialized RX6, .code yX6_goNight cX6_goNight 2 none, .fieldLink RX6 125 "WaterConsentModel" "rainNow" "I", .methodLink RX6 141 yX6_mayOpen, .instanceMethod yX6_mayOpen, .selects RX6 yX6_mayOpen yX6_mayOpen, .code yX6_mayOpen cX6_mayOpen 2 (some .boolean), .methodLink RX6 134 yX6_wantOf, .instanceMethod yX6_wantOf, .selects RX6 yX6_wantOf yX6_wantOf, .code yX6_wantOf cX6_wantOf 3 (some .int), .fieldLink RX6 16 "WaterConsentModel" "limitOf" "[I", .fieldLink RX6 7 "WaterConsentModel" "kindOf" "[I"] ++ wsX60)
def wsX6_gates : List Cond := .code yX6_gates cX6_gates 1 (some .int) :: ([.fieldLink RX6 73 "WaterConsentModel" "reaches" "I", .methodLink RX6 147 yX6_begin, .instanceMethod yX6_begin, .selects RX6 yX6_begin yX6_begin, .initialized RX6, .code yX6_begin cX6_begin 2 none, .fieldLink RX6 28 "WaterConsentModel" "levelNow" "[I", .fieldLink RX6 13 "WaterConsentModel" "levelOf" "[I", .methodLink RX6 150 yX6_gatesNow, .instanceMethod yX6_gatesNow, .selects RX6 yX6_gatesNow yX6_gatesNow, .code yX6_gatesNow cX6_gatesNow 3 (some .int), .methodLink RX6 141 yX6_mayOpen, .instanceMethod yX6_mayOpen, .selects RX6 yX6_mayOpen yX6_mayOpen, .code yX6_mayOpen cX6_mayOpen 2 (some .boolean), .methodLink RX6 134 yX6_wantOf, .instanceMethod yX6_wantOf, .selects RX6 yX6_wantOf yX6_wantOf, .code yX6_wantOf cX6_wantOf 3 (some .int), .fieldLink RX6 16 "WaterConsentModel" "limitOf" "[I", .fieldLink RX6 7 "WaterConsentModel" "kindOf" "[I"] ++ wsX60)
def wsX6_open_r1 : List Cond := [Cond.fieldLink RX6 73 "WaterConsentModel" "reaches" "I", Cond.constantLong RX6 116 (2), Cond.fieldLink RX6 13 "WaterConsentModel" "levelOf" "[I", Cond.methodLink RX6 76 yX6_in, Cond.static yX6_in, Cond.initialized RX6, Cond.code yX6_in cX6_in 6 (some .boolean), Cond.methodLink RX6 147 yX6_begin, Cond.instanceMethod yX6_begin, Cond.selects RX6 yX6_begin yX6_begin, Cond.code yX6_begin cX6_begin 2 none, Cond.fieldLink RX6 28 "WaterConsentModel" "levelNow" "[I", Cond.methodLink RX6 154 yX6_does, Cond.instanceMethod yX6_does, Cond.selects RX6 yX6_does yX6_does, Cond.code yX6_does cX6_does 2 (some .boolean), Cond.methodLink RX6 144 yX6_goNight, Cond.instanceMethod yX6_goNight, Cond.selects RX6 yX6_goNight yX6_goNight, Cond.code yX6_goNight cX6_goNight 2 none, Cond.fieldLink RX6 125 "WaterConsentModel" "rainNow" "I", Cond.methodLink RX6 141 yX6_mayOpen, Cond.instanceMethod yX6_mayOpen, Cond.selects RX6 yX6_mayOpen yX6_mayOpen]
def wsX6_open_r2 : List Cond := [Cond.code yX6_mayOpen cX6_mayOpen 2 (some .boolean), Cond.methodLink RX6 134 yX6_wantOf, Cond.instanceMethod yX6_wantOf, Cond.selects RX6 yX6_wantOf yX6_wantOf, Cond.code yX6_wantOf cX6_wantOf 3 (some .int), Cond.fieldLink RX6 16 "WaterConsentModel" "limitOf" "[I", Cond.fieldLink RX6 7 "WaterConsentModel" "kindOf" "[I", Cond.methodLink RX6 157 yX6_end, Cond.instanceMethod yX6_end, Cond.selects RX6 yX6_end yX6_end, Cond.code yX6_end cX6_end 2 none]
def wsX6_open : List Cond := .code yX6_open cX6_open 2 (some .int) :: ((wsX6_open_r1 ++ wsX6_open_r2) ++ wsX60)
def wsX6_nights : List Cond := .code yX6_nights cX6_nights 3 (some .int) :: ([.constantLong RX6 160 (40), .fieldLink RX6 73 "WaterConsentModel" "reaches" "I", .fieldLink RX6 13 "WaterConsentModel" "levelOf" "[I", .methodLink RX6 76 yX6_in, .static yX6_in, .initialized RX6, .code yX6_in cX6_in 6 (some .boolean), .methodLink RX6 147 yX6_begin, .instanceMethod yX6_begin, .selects RX6 yX6_begin yX6_begin, .code yX6_begin cX6_begin 2 none, .fieldLink RX6 28 "WaterConsentModel" "levelNow" "[I", .methodLink RX6 144 yX6_goNight, .instanceMethod yX6_goNight, .selects RX6 yX6_goNight yX6_goNight, .code yX6_goNight cX6_goNight 2 none, .fieldLink RX6 125 "WaterConsentModel" "rainNow" "I", .methodLink RX6 157 yX6_end, .instanceMethod yX6_end, .selects RX6 yX6_end yX6_end, .code yX6_end cX6_end 2 none] ++ wsX60)
def wsX6_goActs_r1 : List Cond := [Cond.fieldLink RX6 162 "WaterConsentModel" "silence" "I", Cond.fieldLink RX6 165 "WaterConsentModel" "openings" "I", Cond.fieldLink RX6 57 "WaterConsentModel" "sheet" "[I", Cond.fieldLink RX6 73 "WaterConsentModel" "reaches" "I", Cond.methodLink RX6 147 yX6_begin, Cond.instanceMethod yX6_begin, Cond.selects RX6 yX6_begin yX6_begin, Cond.initialized RX6, Cond.code yX6_begin cX6_begin 2 none, Cond.fieldLink RX6 28 "WaterConsentModel" "levelNow" "[I", Cond.fieldLink RX6 13 "WaterConsentModel" "levelOf" "[I", Cond.methodLink RX6 154 yX6_does, Cond.instanceMethod yX6_does, Cond.selects RX6 yX6_does yX6_does, Cond.code yX6_does cX6_does 2 (some .boolean), Cond.methodLink RX6 144 yX6_goNight, Cond.instanceMethod yX6_goNight, Cond.selects RX6 yX6_goNight yX6_goNight, Cond.code yX6_goNight cX6_goNight 2 none, Cond.fieldLink RX6 125 "WaterConsentModel" "rainNow" "I", Cond.methodLink RX6 141 yX6_mayOpen, Cond.instanceMethod yX6_mayOpen, Cond.selects RX6 yX6_mayOpen yX6_mayOpen, Cond.code yX6_mayOpen cX6_mayOpen 2 (some .boolean)]
def wsX6_goActs_r2 : List Cond := [Cond.methodLink RX6 134 yX6_wantOf, Cond.instanceMethod yX6_wantOf, Cond.selects RX6 yX6_wantOf yX6_wantOf, Cond.code yX6_wantOf cX6_wantOf 3 (some .int), Cond.fieldLink RX6 16 "WaterConsentModel" "limitOf" "[I", Cond.fieldLink RX6 7 "WaterConsentModel" "kindOf" "[I"]
def wsX6_goActs : List Cond := .code yX6_goActs cX6_goActs 5 none :: ((wsX6_goActs_r1 ++ wsX6_goActs_r2) ++ wsX60)
def wsX6_levelsNow : List Cond := .code yX6_levelsNow cX6_levelsNow 3 (some .int) :: ([.fieldLink RX6 73 "WaterConsentModel" "reaches" "I", .fieldLink RX6 28 "WaterConsentModel" "levelNow" "[I"] ++ wsX60)
def wsX6_actsBy_r1 : List Cond := [Cond.fieldLink RX6 162 "WaterConsentModel" "silence" "I", Cond.fieldLink RX6 28 "WaterConsentModel" "levelNow" "[I", Cond.fieldLink RX6 165 "WaterConsentModel" "openings" "I", Cond.methodLink RX6 131 yX6_noReach, Cond.instanceMethod yX6_noReach, Cond.selects RX6 yX6_noReach yX6_noReach, Cond.initialized RX6, Cond.code yX6_noReach cX6_noReach 2 (some .boolean), Cond.fieldLink RX6 73 "WaterConsentModel" "reaches" "I", Cond.methodLink RX6 76 yX6_in, Cond.static yX6_in, Cond.code yX6_in cX6_in 6 (some .boolean), Cond.methodLink RX6 168 yX6_levelsNow, Cond.instanceMethod yX6_levelsNow, Cond.selects RX6 yX6_levelsNow yX6_levelsNow, Cond.code yX6_levelsNow cX6_levelsNow 3 (some .int), Cond.methodLink RX6 150 yX6_gatesNow, Cond.instanceMethod yX6_gatesNow, Cond.selects RX6 yX6_gatesNow yX6_gatesNow, Cond.code yX6_gatesNow cX6_gatesNow 3 (some .int), Cond.methodLink RX6 141 yX6_mayOpen, Cond.instanceMethod yX6_mayOpen, Cond.selects RX6 yX6_mayOpen yX6_mayOpen, Cond.code yX6_mayOpen cX6_mayOpen 2 (some .boolean)]
def wsX6_actsBy_r2 : List Cond := [Cond.methodLink RX6 134 yX6_wantOf, Cond.instanceMethod yX6_wantOf, Cond.selects RX6 yX6_wantOf yX6_wantOf, Cond.code yX6_wantOf cX6_wantOf 3 (some .int), Cond.fieldLink RX6 16 "WaterConsentModel" "limitOf" "[I", Cond.fieldLink RX6 7 "WaterConsentModel" "kindOf" "[I"]
def wsX6_actsBy : List Cond := .code yX6_actsBy cX6_actsBy 2 (some .int) :: ((wsX6_actsBy_r1 ++ wsX6_actsBy_r2) ++ wsX60)
def wsX6_acts_r1 : List Cond := [Cond.constantLong RX6 139 (3), Cond.constantLong RX6 171 (10), Cond.constantLong RX6 173 (13), Cond.constantLong RX6 116 (2), Cond.constantLong RX6 160 (40), Cond.fieldLink RX6 73 "WaterConsentModel" "reaches" "I", Cond.fieldLink RX6 57 "WaterConsentModel" "sheet" "[I", Cond.methodLink RX6 109 yX6_noSheet, Cond.static yX6_noSheet, Cond.initialized RX6, Cond.code yX6_noSheet cX6_noSheet 1 (some .boolean), Cond.methodLink RX6 76 yX6_in, Cond.static yX6_in, Cond.code yX6_in cX6_in 6 (some .boolean), Cond.methodLink RX6 113 yX6_refused, Cond.instanceMethod yX6_refused, Cond.selects RX6 yX6_refused yX6_refused, Cond.code yX6_refused cX6_refused 2 (some .int), Cond.fieldLink RX6 65 "WaterConsentModel" "fault" "I", Cond.methodLink RX6 118 yX6_cellsBarred, Cond.instanceMethod yX6_cellsBarred, Cond.selects RX6 yX6_cellsBarred yX6_cellsBarred, Cond.code yX6_cellsBarred cX6_cellsBarred 6 (some .int), Cond.fieldLink RX6 51 "WaterConsentModel" "sheetSize" "[I"]
def wsX6_acts_r2 : List Cond := [Cond.fieldLink RX6 54 "WaterConsentModel" "sheetLane" "[I", Cond.methodLink RX6 101 yX6_failed, Cond.instanceMethod yX6_failed, Cond.selects RX6 yX6_failed yX6_failed, Cond.code yX6_failed cX6_failed 2 (some .int), Cond.methodLink RX6 105 yX6_isBeyond, Cond.static yX6_isBeyond, Cond.code yX6_isBeyond cX6_isBeyond 4 (some .boolean), Cond.methodLink RX6 175 yX6_goActs, Cond.instanceMethod yX6_goActs, Cond.selects RX6 yX6_goActs yX6_goActs, Cond.code yX6_goActs cX6_goActs 5 none, Cond.fieldLink RX6 162 "WaterConsentModel" "silence" "I", Cond.fieldLink RX6 165 "WaterConsentModel" "openings" "I", Cond.methodLink RX6 147 yX6_begin, Cond.instanceMethod yX6_begin, Cond.selects RX6 yX6_begin yX6_begin, Cond.code yX6_begin cX6_begin 2 none, Cond.fieldLink RX6 28 "WaterConsentModel" "levelNow" "[I", Cond.fieldLink RX6 13 "WaterConsentModel" "levelOf" "[I", Cond.methodLink RX6 154 yX6_does, Cond.instanceMethod yX6_does, Cond.selects RX6 yX6_does yX6_does, Cond.code yX6_does cX6_does 2 (some .boolean)]
def wsX6_acts_r3 : List Cond := [Cond.methodLink RX6 144 yX6_goNight, Cond.instanceMethod yX6_goNight, Cond.selects RX6 yX6_goNight yX6_goNight, Cond.code yX6_goNight cX6_goNight 2 none, Cond.fieldLink RX6 125 "WaterConsentModel" "rainNow" "I", Cond.methodLink RX6 141 yX6_mayOpen, Cond.instanceMethod yX6_mayOpen, Cond.selects RX6 yX6_mayOpen yX6_mayOpen, Cond.code yX6_mayOpen cX6_mayOpen 2 (some .boolean), Cond.methodLink RX6 134 yX6_wantOf, Cond.instanceMethod yX6_wantOf, Cond.selects RX6 yX6_wantOf yX6_wantOf, Cond.code yX6_wantOf cX6_wantOf 3 (some .int), Cond.fieldLink RX6 16 "WaterConsentModel" "limitOf" "[I", Cond.fieldLink RX6 7 "WaterConsentModel" "kindOf" "[I", Cond.methodLink RX6 179 yX6_actsBy, Cond.instanceMethod yX6_actsBy, Cond.selects RX6 yX6_actsBy yX6_actsBy, Cond.code yX6_actsBy cX6_actsBy 2 (some .int), Cond.methodLink RX6 131 yX6_noReach, Cond.instanceMethod yX6_noReach, Cond.selects RX6 yX6_noReach yX6_noReach, Cond.code yX6_noReach cX6_noReach 2 (some .boolean), Cond.methodLink RX6 168 yX6_levelsNow]
def wsX6_acts_r4 : List Cond := [Cond.instanceMethod yX6_levelsNow, Cond.selects RX6 yX6_levelsNow yX6_levelsNow, Cond.code yX6_levelsNow cX6_levelsNow 3 (some .int), Cond.methodLink RX6 150 yX6_gatesNow, Cond.instanceMethod yX6_gatesNow, Cond.selects RX6 yX6_gatesNow yX6_gatesNow, Cond.code yX6_gatesNow cX6_gatesNow 3 (some .int)]
def wsX6_acts : List Cond := .code yX6_acts cX6_acts 9 (some .int) :: ((wsX6_acts_r1 ++ (wsX6_acts_r2 ++ (wsX6_acts_r3 ++ wsX6_acts_r4))) ++ wsX60)
def wsX6_wayNow : List Cond := .code yX6_wayNow cX6_wayNow 3 (some .int) :: ([.fieldLink RX6 182 "WaterConsentModel" "boatNow" "I", .fieldLink RX6 73 "WaterConsentModel" "reaches" "I", .fieldLink RX6 28 "WaterConsentModel" "levelNow" "[I"] ++ wsX60)
def wsX6_goTo : List Cond := .code yX6_goTo cX6_goTo 4 none :: ([.fieldLink RX6 73 "WaterConsentModel" "reaches" "I", .fieldLink RX6 28 "WaterConsentModel" "levelNow" "[I", .fieldLink RX6 182 "WaterConsentModel" "boatNow" "I"] ++ wsX60)
def wsX6_isThere : List Cond := .code yX6_isThere cX6_isThere 3 (some .boolean) :: ([.fieldLink RX6 182 "WaterConsentModel" "boatNow" "I", .fieldLink RX6 28 "WaterConsentModel" "levelNow" "[I"] ++ wsX60)
def wsX6_comeTo : List Cond := .code yX6_comeTo cX6_comeTo 4 none :: ([.fieldLink RX6 32 "WaterConsentModel" "cameBy" "[I", .fieldLink RX6 35 "WaterConsentModel" "queue" "[I", .fieldLink RX6 188 "WaterConsentModel" "queued" "I", .methodLink RX6 185 yX6_wayNow, .instanceMethod yX6_wayNow, .selects RX6 yX6_wayNow yX6_wayNow, .initialized RX6, .code yX6_wayNow cX6_wayNow 3 (some .int), .fieldLink RX6 182 "WaterConsentModel" "boatNow" "I", .fieldLink RX6 73 "WaterConsentModel" "reaches" "I", .fieldLink RX6 28 "WaterConsentModel" "levelNow" "[I"] ++ wsX60)
def wsX6_keepRow : List Cond := .code yX6_keepRow cX6_keepRow 4 none :: ([.fieldLink RX6 191 "WaterConsentModel" "rowSize" "I", .fieldLink RX6 38 "WaterConsentModel" "rowFound" "[I", .fieldLink RX6 32 "WaterConsentModel" "cameBy" "[I"] ++ wsX60)
def wsX6_goOn_r1 : List Cond := [Cond.fieldLink RX6 73 "WaterConsentModel" "reaches" "I", Cond.fieldLink RX6 182 "WaterConsentModel" "boatNow" "I", Cond.methodLink RX6 194 yX6_goTo, Cond.instanceMethod yX6_goTo, Cond.selects RX6 yX6_goTo yX6_goTo, Cond.initialized RX6, Cond.code yX6_goTo cX6_goTo 4 none, Cond.fieldLink RX6 28 "WaterConsentModel" "levelNow" "[I", Cond.methodLink RX6 154 yX6_does, Cond.instanceMethod yX6_does, Cond.selects RX6 yX6_does yX6_does, Cond.code yX6_does cX6_does 2 (some .boolean), Cond.methodLink RX6 144 yX6_goNight, Cond.instanceMethod yX6_goNight, Cond.selects RX6 yX6_goNight yX6_goNight, Cond.code yX6_goNight cX6_goNight 2 none, Cond.fieldLink RX6 125 "WaterConsentModel" "rainNow" "I", Cond.methodLink RX6 141 yX6_mayOpen, Cond.instanceMethod yX6_mayOpen, Cond.selects RX6 yX6_mayOpen yX6_mayOpen, Cond.code yX6_mayOpen cX6_mayOpen 2 (some .boolean), Cond.methodLink RX6 134 yX6_wantOf, Cond.instanceMethod yX6_wantOf, Cond.selects RX6 yX6_wantOf yX6_wantOf]
def wsX6_goOn_r2 : List Cond := [Cond.code yX6_wantOf cX6_wantOf 3 (some .int), Cond.fieldLink RX6 16 "WaterConsentModel" "limitOf" "[I", Cond.fieldLink RX6 7 "WaterConsentModel" "kindOf" "[I", Cond.methodLink RX6 198 yX6_comeTo, Cond.instanceMethod yX6_comeTo, Cond.selects RX6 yX6_comeTo yX6_comeTo, Cond.code yX6_comeTo cX6_comeTo 4 none, Cond.fieldLink RX6 32 "WaterConsentModel" "cameBy" "[I", Cond.fieldLink RX6 35 "WaterConsentModel" "queue" "[I", Cond.fieldLink RX6 188 "WaterConsentModel" "queued" "I", Cond.methodLink RX6 185 yX6_wayNow, Cond.instanceMethod yX6_wayNow, Cond.selects RX6 yX6_wayNow yX6_wayNow, Cond.code yX6_wayNow cX6_wayNow 3 (some .int)]
def wsX6_goOn : List Cond := .code yX6_goOn cX6_goOn 4 none :: ((wsX6_goOn_r1 ++ wsX6_goOn_r2) ++ wsX60)
def wsX6_fewest_r1 : List Cond := [Cond.constant RX6 31 (40000), Cond.fieldLink RX6 32 "WaterConsentModel" "cameBy" "[I", Cond.fieldLink RX6 182 "WaterConsentModel" "boatNow" "I", Cond.fieldLink RX6 188 "WaterConsentModel" "queued" "I", Cond.fieldLink RX6 35 "WaterConsentModel" "queue" "[I", Cond.methodLink RX6 147 yX6_begin, Cond.instanceMethod yX6_begin, Cond.selects RX6 yX6_begin yX6_begin, Cond.initialized RX6, Cond.code yX6_begin cX6_begin 2 none, Cond.fieldLink RX6 73 "WaterConsentModel" "reaches" "I", Cond.fieldLink RX6 28 "WaterConsentModel" "levelNow" "[I", Cond.fieldLink RX6 13 "WaterConsentModel" "levelOf" "[I", Cond.methodLink RX6 185 yX6_wayNow, Cond.instanceMethod yX6_wayNow, Cond.selects RX6 yX6_wayNow yX6_wayNow, Cond.code yX6_wayNow cX6_wayNow 3 (some .int), Cond.methodLink RX6 198 yX6_comeTo, Cond.instanceMethod yX6_comeTo, Cond.selects RX6 yX6_comeTo yX6_comeTo, Cond.code yX6_comeTo cX6_comeTo 4 none, Cond.methodLink RX6 194 yX6_goTo, Cond.instanceMethod yX6_goTo, Cond.selects RX6 yX6_goTo yX6_goTo]
def wsX6_fewest_r2 : List Cond := [Cond.code yX6_goTo cX6_goTo 4 none, Cond.methodLink RX6 201 yX6_isThere, Cond.instanceMethod yX6_isThere, Cond.selects RX6 yX6_isThere yX6_isThere, Cond.code yX6_isThere cX6_isThere 3 (some .boolean), Cond.methodLink RX6 204 yX6_keepRow, Cond.instanceMethod yX6_keepRow, Cond.selects RX6 yX6_keepRow yX6_keepRow, Cond.code yX6_keepRow cX6_keepRow 4 none, Cond.fieldLink RX6 191 "WaterConsentModel" "rowSize" "I", Cond.fieldLink RX6 38 "WaterConsentModel" "rowFound" "[I", Cond.methodLink RX6 207 yX6_goOn, Cond.instanceMethod yX6_goOn, Cond.selects RX6 yX6_goOn yX6_goOn, Cond.code yX6_goOn cX6_goOn 4 none, Cond.methodLink RX6 154 yX6_does, Cond.instanceMethod yX6_does, Cond.selects RX6 yX6_does yX6_does, Cond.code yX6_does cX6_does 2 (some .boolean), Cond.methodLink RX6 144 yX6_goNight, Cond.instanceMethod yX6_goNight, Cond.selects RX6 yX6_goNight yX6_goNight, Cond.code yX6_goNight cX6_goNight 2 none, Cond.fieldLink RX6 125 "WaterConsentModel" "rainNow" "I"]
def wsX6_fewest_r3 : List Cond := [Cond.methodLink RX6 141 yX6_mayOpen, Cond.instanceMethod yX6_mayOpen, Cond.selects RX6 yX6_mayOpen yX6_mayOpen, Cond.code yX6_mayOpen cX6_mayOpen 2 (some .boolean), Cond.methodLink RX6 134 yX6_wantOf, Cond.instanceMethod yX6_wantOf, Cond.selects RX6 yX6_wantOf yX6_wantOf, Cond.code yX6_wantOf cX6_wantOf 3 (some .int), Cond.fieldLink RX6 16 "WaterConsentModel" "limitOf" "[I", Cond.fieldLink RX6 7 "WaterConsentModel" "kindOf" "[I"]
def wsX6_fewest : List Cond := .code yX6_fewest cX6_fewest 9 (some .int) :: ((wsX6_fewest_r1 ++ (wsX6_fewest_r2 ++ wsX6_fewest_r3)) ++ wsX60)
def wsX6_actOf : List Cond := .code yX6_actOf cX6_actOf 3 (some .int) :: ([.fieldLink RX6 38 "WaterConsentModel" "rowFound" "[I"] ++ wsX60)
def wsX6_boat_r1 : List Cond := [Cond.constantLong RX6 210 (-1), Cond.constantLong RX6 212 (39), Cond.methodLink RX6 131 yX6_noReach, Cond.instanceMethod yX6_noReach, Cond.selects RX6 yX6_noReach yX6_noReach, Cond.initialized RX6, Cond.code yX6_noReach cX6_noReach 2 (some .boolean), Cond.fieldLink RX6 73 "WaterConsentModel" "reaches" "I", Cond.methodLink RX6 76 yX6_in, Cond.static yX6_in, Cond.code yX6_in cX6_in 6 (some .boolean), Cond.methodLink RX6 214 yX6_fewest, Cond.instanceMethod yX6_fewest, Cond.selects RX6 yX6_fewest yX6_fewest, Cond.code yX6_fewest cX6_fewest 9 (some .int), Cond.constant RX6 31 (40000), Cond.fieldLink RX6 32 "WaterConsentModel" "cameBy" "[I", Cond.fieldLink RX6 182 "WaterConsentModel" "boatNow" "I", Cond.fieldLink RX6 188 "WaterConsentModel" "queued" "I", Cond.fieldLink RX6 35 "WaterConsentModel" "queue" "[I", Cond.methodLink RX6 147 yX6_begin, Cond.instanceMethod yX6_begin, Cond.selects RX6 yX6_begin yX6_begin, Cond.code yX6_begin cX6_begin 2 none]
def wsX6_boat_r2 : List Cond := [Cond.fieldLink RX6 28 "WaterConsentModel" "levelNow" "[I", Cond.fieldLink RX6 13 "WaterConsentModel" "levelOf" "[I", Cond.methodLink RX6 185 yX6_wayNow, Cond.instanceMethod yX6_wayNow, Cond.selects RX6 yX6_wayNow yX6_wayNow, Cond.code yX6_wayNow cX6_wayNow 3 (some .int), Cond.methodLink RX6 198 yX6_comeTo, Cond.instanceMethod yX6_comeTo, Cond.selects RX6 yX6_comeTo yX6_comeTo, Cond.code yX6_comeTo cX6_comeTo 4 none, Cond.methodLink RX6 194 yX6_goTo, Cond.instanceMethod yX6_goTo, Cond.selects RX6 yX6_goTo yX6_goTo, Cond.code yX6_goTo cX6_goTo 4 none, Cond.methodLink RX6 201 yX6_isThere, Cond.instanceMethod yX6_isThere, Cond.selects RX6 yX6_isThere yX6_isThere, Cond.code yX6_isThere cX6_isThere 3 (some .boolean), Cond.methodLink RX6 204 yX6_keepRow, Cond.instanceMethod yX6_keepRow, Cond.selects RX6 yX6_keepRow yX6_keepRow, Cond.code yX6_keepRow cX6_keepRow 4 none, Cond.fieldLink RX6 191 "WaterConsentModel" "rowSize" "I", Cond.fieldLink RX6 38 "WaterConsentModel" "rowFound" "[I"]
def wsX6_boat_r3 : List Cond := [Cond.methodLink RX6 207 yX6_goOn, Cond.instanceMethod yX6_goOn, Cond.selects RX6 yX6_goOn yX6_goOn, Cond.code yX6_goOn cX6_goOn 4 none, Cond.methodLink RX6 154 yX6_does, Cond.instanceMethod yX6_does, Cond.selects RX6 yX6_does yX6_does, Cond.code yX6_does cX6_does 2 (some .boolean), Cond.methodLink RX6 144 yX6_goNight, Cond.instanceMethod yX6_goNight, Cond.selects RX6 yX6_goNight yX6_goNight, Cond.code yX6_goNight cX6_goNight 2 none, Cond.fieldLink RX6 125 "WaterConsentModel" "rainNow" "I", Cond.methodLink RX6 141 yX6_mayOpen, Cond.instanceMethod yX6_mayOpen, Cond.selects RX6 yX6_mayOpen yX6_mayOpen, Cond.code yX6_mayOpen cX6_mayOpen 2 (some .boolean), Cond.methodLink RX6 134 yX6_wantOf, Cond.instanceMethod yX6_wantOf, Cond.selects RX6 yX6_wantOf yX6_wantOf, Cond.code yX6_wantOf cX6_wantOf 3 (some .int), Cond.fieldLink RX6 16 "WaterConsentModel" "limitOf" "[I", Cond.fieldLink RX6 7 "WaterConsentModel" "kindOf" "[I", Cond.methodLink RX6 217 yX6_actOf]
def wsX6_boat_r4 : List Cond := [Cond.instanceMethod yX6_actOf, Cond.selects RX6 yX6_actOf yX6_actOf, Cond.code yX6_actOf cX6_actOf 3 (some .int)]
def wsX6_boat : List Cond := .code yX6_boat cX6_boat 4 (some .int) :: ((wsX6_boat_r1 ++ (wsX6_boat_r2 ++ (wsX6_boat_r3 ++ wsX6_boat_r4))) ++ wsX60)
def wsX6_raise_r1 : List Cond := [Cond.constantLong RX6 137 (9), Cond.constantLong RX6 210 (-1), Cond.constantLong RX6 212 (39), Cond.methodLink RX6 131 yX6_noReach, Cond.instanceMethod yX6_noReach, Cond.selects RX6 yX6_noReach yX6_noReach, Cond.initialized RX6, Cond.code yX6_noReach cX6_noReach 2 (some .boolean), Cond.fieldLink RX6 73 "WaterConsentModel" "reaches" "I", Cond.methodLink RX6 76 yX6_in, Cond.static yX6_in, Cond.code yX6_in cX6_in 6 (some .boolean), Cond.methodLink RX6 214 yX6_fewest, Cond.instanceMethod yX6_fewest, Cond.selects RX6 yX6_fewest yX6_fewest, Cond.code yX6_fewest cX6_fewest 9 (some .int), Cond.constant RX6 31 (40000), Cond.fieldLink RX6 32 "WaterConsentModel" "cameBy" "[I", Cond.fieldLink RX6 182 "WaterConsentModel" "boatNow" "I", Cond.fieldLink RX6 188 "WaterConsentModel" "queued" "I", Cond.fieldLink RX6 35 "WaterConsentModel" "queue" "[I", Cond.methodLink RX6 147 yX6_begin, Cond.instanceMethod yX6_begin, Cond.selects RX6 yX6_begin yX6_begin]
def wsX6_raise_r2 : List Cond := [Cond.code yX6_begin cX6_begin 2 none, Cond.fieldLink RX6 28 "WaterConsentModel" "levelNow" "[I", Cond.fieldLink RX6 13 "WaterConsentModel" "levelOf" "[I", Cond.methodLink RX6 185 yX6_wayNow, Cond.instanceMethod yX6_wayNow, Cond.selects RX6 yX6_wayNow yX6_wayNow, Cond.code yX6_wayNow cX6_wayNow 3 (some .int), Cond.methodLink RX6 198 yX6_comeTo, Cond.instanceMethod yX6_comeTo, Cond.selects RX6 yX6_comeTo yX6_comeTo, Cond.code yX6_comeTo cX6_comeTo 4 none, Cond.methodLink RX6 194 yX6_goTo, Cond.instanceMethod yX6_goTo, Cond.selects RX6 yX6_goTo yX6_goTo, Cond.code yX6_goTo cX6_goTo 4 none, Cond.methodLink RX6 201 yX6_isThere, Cond.instanceMethod yX6_isThere, Cond.selects RX6 yX6_isThere yX6_isThere, Cond.code yX6_isThere cX6_isThere 3 (some .boolean), Cond.methodLink RX6 204 yX6_keepRow, Cond.instanceMethod yX6_keepRow, Cond.selects RX6 yX6_keepRow yX6_keepRow, Cond.code yX6_keepRow cX6_keepRow 4 none, Cond.fieldLink RX6 191 "WaterConsentModel" "rowSize" "I"]
def wsX6_raise_r3 : List Cond := [Cond.fieldLink RX6 38 "WaterConsentModel" "rowFound" "[I", Cond.methodLink RX6 207 yX6_goOn, Cond.instanceMethod yX6_goOn, Cond.selects RX6 yX6_goOn yX6_goOn, Cond.code yX6_goOn cX6_goOn 4 none, Cond.methodLink RX6 154 yX6_does, Cond.instanceMethod yX6_does, Cond.selects RX6 yX6_does yX6_does, Cond.code yX6_does cX6_does 2 (some .boolean), Cond.methodLink RX6 144 yX6_goNight, Cond.instanceMethod yX6_goNight, Cond.selects RX6 yX6_goNight yX6_goNight, Cond.code yX6_goNight cX6_goNight 2 none, Cond.fieldLink RX6 125 "WaterConsentModel" "rainNow" "I", Cond.methodLink RX6 141 yX6_mayOpen, Cond.instanceMethod yX6_mayOpen, Cond.selects RX6 yX6_mayOpen yX6_mayOpen, Cond.code yX6_mayOpen cX6_mayOpen 2 (some .boolean), Cond.methodLink RX6 134 yX6_wantOf, Cond.instanceMethod yX6_wantOf, Cond.selects RX6 yX6_wantOf yX6_wantOf, Cond.code yX6_wantOf cX6_wantOf 3 (some .int), Cond.fieldLink RX6 16 "WaterConsentModel" "limitOf" "[I", Cond.fieldLink RX6 7 "WaterConsentModel" "kindOf" "[I"]
def wsX6_raise_r4 : List Cond := [Cond.methodLink RX6 217 yX6_actOf, Cond.instanceMethod yX6_actOf, Cond.selects RX6 yX6_actOf yX6_actOf, Cond.code yX6_actOf cX6_actOf 3 (some .int)]
def wsX6_raise : List Cond := .code yX6_raise cX6_raise 4 (some .int) :: ((wsX6_raise_r1 ++ (wsX6_raise_r2 ++ (wsX6_raise_r3 ++ wsX6_raise_r4))) ++ wsX60)
def wsX6_reading : List Cond := .code yX6_reading cX6_reading 4 (some .int) :: ([.constantLong RX6 137 (9), .fieldLink RX6 128 "WaterConsentModel" "readings" "I", .fieldLink RX6 41 "WaterConsentModel" "readingOf" "[I", .fieldLink RX6 44 "WaterConsentModel" "readingAt" "[I", .fieldLink RX6 47 "WaterConsentModel" "readingDid" "[Z", .methodLink RX6 131 yX6_noReach, .instanceMethod yX6_noReach, .selects RX6 yX6_noReach yX6_noReach, .initialized RX6, .code yX6_noReach cX6_noReach 2 (some .boolean), .fieldLink RX6 73 "WaterConsentModel" "reaches" "I", .methodLink RX6 76 yX6_in, .static yX6_in, .code yX6_in cX6_in 6 (some .boolean)] ++ wsX60)
def wsX6_back : List Cond := .code yX6_back cX6_back 2 (some .int) :: ([.fieldLink RX6 128 "WaterConsentModel" "readings" "I", .methodLink RX6 76 yX6_in, .static yX6_in, .initialized RX6, .code yX6_in cX6_in 6 (some .boolean)] ++ wsX60)
def wsX6_areSo : List Cond := .code yX6_areSo cX6_areSo 5 (some .boolean) :: ([.fieldLink RX6 128 "WaterConsentModel" "readings" "I", .fieldLink RX6 41 "WaterConsentModel" "readingOf" "[I", .fieldLink RX6 44 "WaterConsentModel" "readingAt" "[I", .fieldLink RX6 13 "WaterConsentModel" "levelOf" "[I", .fieldLink RX6 47 "WaterConsentModel" "readingDid" "[Z", .methodLink RX6 134 yX6_wantOf, .instanceMethod yX6_wantOf, .selects RX6 yX6_wantOf yX6_wantOf, .initialized RX6, .code yX6_wantOf cX6_wantOf 3 (some .int), .fieldLink RX6 16 "WaterConsentModel" "limitOf" "[I", .fieldLink RX6 7 "WaterConsentModel" "kindOf" "[I"] ++ wsX60)
def wsX6_limits : List Cond := .code yX6_limits cX6_limits 5 (some .int) :: ([.fieldLink RX6 16 "WaterConsentModel" "limitOf" "[I", .methodLink RX6 131 yX6_noReach, .instanceMethod yX6_noReach, .selects RX6 yX6_noReach yX6_noReach, .initialized RX6, .code yX6_noReach cX6_noReach 2 (some .boolean), .fieldLink RX6 73 "WaterConsentModel" "reaches" "I", .methodLink RX6 76 yX6_in, .static yX6_in, .code yX6_in cX6_in 6 (some .boolean), .methodLink RX6 220 yX6_areSo, .instanceMethod yX6_areSo, .selects RX6 yX6_areSo yX6_areSo, .code yX6_areSo cX6_areSo 5 (some .boolean), .fieldLink RX6 128 "WaterConsentModel" "readings" "I", .fieldLink RX6 41 "WaterConsentModel" "readingOf" "[I", .fieldLink RX6 44 "WaterConsentModel" "readingAt" "[I", .fieldLink RX6 13 "WaterConsentModel" "levelOf" "[I", .fieldLink RX6 47 "WaterConsentModel" "readingDid" "[Z", .methodLink RX6 134 yX6_wantOf, .instanceMethod yX6_wantOf, .selects RX6 yX6_wantOf yX6_wantOf, .code yX6_wantOf cX6_wantOf 3 (some .int), .fieldLink RX6 7 "WaterConsentModel" "kindOf" "[I"] ++ wsX60)
def wsX6_kinds : List Cond := .code yX6_kinds cX6_kinds 5 (some .int) :: ([.fieldLink RX6 7 "WaterConsentModel" "kindOf" "[I", .methodLink RX6 131 yX6_noReach, .instanceMethod yX6_noReach, .selects RX6 yX6_noReach yX6_noReach, .initialized RX6, .code yX6_noReach cX6_noReach 2 (some .boolean), .fieldLink RX6 73 "WaterConsentModel" "reaches" "I", .methodLink RX6 76 yX6_in, .static yX6_in, .code yX6_in cX6_in 6 (some .boolean), .methodLink RX6 220 yX6_areSo, .instanceMethod yX6_areSo, .selects RX6 yX6_areSo yX6_areSo, .code yX6_areSo cX6_areSo 5 (some .boolean), .fieldLink RX6 128 "WaterConsentModel" "readings" "I", .fieldLink RX6 41 "WaterConsentModel" "readingOf" "[I", .fieldLink RX6 44 "WaterConsentModel" "readingAt" "[I", .fieldLink RX6 13 "WaterConsentModel" "levelOf" "[I", .fieldLink RX6 47 "WaterConsentModel" "readingDid" "[Z", .methodLink RX6 134 yX6_wantOf, .instanceMethod yX6_wantOf, .selects RX6 yX6_wantOf yX6_wantOf, .code yX6_wantOf cX6_wantOf 3 (some .int), .fieldLink RX6 16 "WaterConsentModel" "limitOf" "[I"] ++ wsX60)
def wsX6_levels : List Cond := .code yX6_levels cX6_levels 5 (some .int) :: ([.fieldLink RX6 13 "WaterConsentModel" "levelOf" "[I", .methodLink RX6 131 yX6_noReach, .instanceMethod yX6_noReach, .selects RX6 yX6_noReach yX6_noReach, .initialized RX6, .code yX6_noReach cX6_noReach 2 (some .boolean), .fieldLink RX6 73 "WaterConsentModel" "reaches" "I", .methodLink RX6 76 yX6_in, .static yX6_in, .code yX6_in cX6_in 6 (some .boolean), .methodLink RX6 220 yX6_areSo, .instanceMethod yX6_areSo, .selects RX6 yX6_areSo yX6_areSo, .code yX6_areSo cX6_areSo 5 (some .boolean), .fieldLink RX6 128 "WaterConsentModel" "readings" "I", .fieldLink RX6 41 "WaterConsentModel" "readingOf" "[I", .fieldLink RX6 44 "WaterConsentModel" "readingAt" "[I", .fieldLink RX6 47 "WaterConsentModel" "readingDid" "[Z", .methodLink RX6 134 yX6_wantOf, .instanceMethod yX6_wantOf, .selects RX6 yX6_wantOf yX6_wantOf, .code yX6_wantOf cX6_wantOf 3 (some .int), .fieldLink RX6 16 "WaterConsentModel" "limitOf" "[I", .fieldLink RX6 7 "WaterConsentModel" "kindOf" "[I"] ++ wsX60)
def wsX6_odds : List Cond := .code yX6_odds cX6_odds 9 (some .long) :: ([.fieldLink RX6 73 "WaterConsentModel" "reaches" "I", .constantLong RX6 224 (8), .constantLong RX6 137 (9), .fieldLink RX6 13 "WaterConsentModel" "levelOf" "[I", .fieldLink RX6 125 "WaterConsentModel" "rainNow" "I", .methodLink RX6 76 yX6_in, .static yX6_in, .initialized RX6, .code yX6_in cX6_in 6 (some .boolean), .methodLink RX6 69 yX6_lost, .static yX6_lost, .code yX6_lost cX6_lost 0 (some .long), .constantLong RX6 63 (-9223372036854775808), .methodLink RX6 226 yX6_share, .static yX6_share, .code yX6_share cX6_share 11 (some .long)] ++ wsX60)
def wsX6_sheet : List Cond := .code yX6_sheet cX6_sheet 5 (some .int) :: ([.constantLong RX6 116 (2), .fieldLink RX6 51 "WaterConsentModel" "sheetSize" "[I", .fieldLink RX6 54 "WaterConsentModel" "sheetLane" "[I", .fieldLink RX6 57 "WaterConsentModel" "sheet" "[I", .methodLink RX6 109 yX6_noSheet, .static yX6_noSheet, .initialized RX6, .code yX6_noSheet cX6_noSheet 1 (some .boolean), .constantLong RX6 139 (3), .methodLink RX6 76 yX6_in, .static yX6_in, .code yX6_in cX6_in 6 (some .boolean), .methodLink RX6 113 yX6_refused, .instanceMethod yX6_refused, .selects RX6 yX6_refused yX6_refused, .code yX6_refused cX6_refused 2 (some .int), .fieldLink RX6 65 "WaterConsentModel" "fault" "I", .methodLink RX6 101 yX6_failed, .instanceMethod yX6_failed, .selects RX6 yX6_failed yX6_failed, .code yX6_failed cX6_failed 2 (some .int)] ++ wsX60)
def wsX6_lose : List Cond := .code yX6_lose cX6_lose 3 (some .int) :: ([.fieldLink RX6 51 "WaterConsentModel" "sheetSize" "[I", .methodLink RX6 109 yX6_noSheet, .static yX6_noSheet, .initialized RX6, .code yX6_noSheet cX6_noSheet 1 (some .boolean), .constantLong RX6 139 (3), .methodLink RX6 76 yX6_in, .static yX6_in, .code yX6_in cX6_in 6 (some .boolean)] ++ wsX60)
def wsX6_noCell : List Cond := .code yX6_noCell cX6_noCell 3 (some .int) :: ([.fieldLink RX6 51 "WaterConsentModel" "sheetSize" "[I", .methodLink RX6 76 yX6_in, .static yX6_in, .initialized RX6, .code yX6_in cX6_in 6 (some .boolean)] ++ wsX60)
def wsX6_put : List Cond := .code yX6_put cX6_put 4 (some .int) :: ([.fieldLink RX6 57 "WaterConsentModel" "sheet" "[I", .fieldLink RX6 54 "WaterConsentModel" "sheetLane" "[I", .methodLink RX6 109 yX6_noSheet, .static yX6_noSheet, .initialized RX6, .code yX6_noSheet cX6_noSheet 1 (some .boolean), .constantLong RX6 139 (3), .methodLink RX6 76 yX6_in, .static yX6_in, .code yX6_in cX6_in 6 (some .boolean), .methodLink RX6 113 yX6_refused, .instanceMethod yX6_refused, .selects RX6 yX6_refused yX6_refused, .code yX6_refused cX6_refused 2 (some .int), .fieldLink RX6 65 "WaterConsentModel" "fault" "I", .methodLink RX6 230 yX6_noCell, .instanceMethod yX6_noCell, .selects RX6 yX6_noCell yX6_noCell, .code yX6_noCell cX6_noCell 3 (some .int), .fieldLink RX6 51 "WaterConsentModel" "sheetSize" "[I", .methodLink RX6 101 yX6_failed, .instanceMethod yX6_failed, .selects RX6 yX6_failed yX6_failed, .code yX6_failed cX6_failed 2 (some .int)] ++ wsX60)
def wsX6_cell_r1 : List Cond := [Cond.fieldLink RX6 65 "WaterConsentModel" "fault" "I", Cond.constantLong RX6 116 (2), Cond.fieldLink RX6 51 "WaterConsentModel" "sheetSize" "[I", Cond.fieldLink RX6 54 "WaterConsentModel" "sheetLane" "[I", Cond.fieldLink RX6 57 "WaterConsentModel" "sheet" "[I", Cond.methodLink RX6 109 yX6_noSheet, Cond.static yX6_noSheet, Cond.initialized RX6, Cond.code yX6_noSheet cX6_noSheet 1 (some .boolean), Cond.constantLong RX6 139 (3), Cond.methodLink RX6 76 yX6_in, Cond.static yX6_in, Cond.code yX6_in cX6_in 6 (some .boolean), Cond.methodLink RX6 69 yX6_lost, Cond.static yX6_lost, Cond.code yX6_lost cX6_lost 0 (some .long), Cond.constantLong RX6 63 (-9223372036854775808), Cond.methodLink RX6 233 yX6_failedLong, Cond.instanceMethod yX6_failedLong, Cond.selects RX6 yX6_failedLong yX6_failedLong, Cond.code yX6_failedLong cX6_failedLong 2 (some .long), Cond.methodLink RX6 230 yX6_noCell, Cond.instanceMethod yX6_noCell, Cond.selects RX6 yX6_noCell yX6_noCell]
def wsX6_cell_r2 : List Cond := [Cond.code yX6_noCell cX6_noCell 3 (some .int)]
def wsX6_cell : List Cond := .code yX6_cell cX6_cell 4 (some .long) :: ((wsX6_cell_r1 ++ wsX6_cell_r2) ++ wsX60)
def wsX6_copy : List Cond := .code yX6_copy cX6_copy 7 (some .int) :: ([.fieldLink RX6 51 "WaterConsentModel" "sheetSize" "[I", .fieldLink RX6 54 "WaterConsentModel" "sheetLane" "[I", .fieldLink RX6 60 "WaterConsentModel" "hands" "[I", .fieldLink RX6 57 "WaterConsentModel" "sheet" "[I", .methodLink RX6 109 yX6_noSheet, .static yX6_noSheet, .initialized RX6, .code yX6_noSheet cX6_noSheet 1 (some .boolean), .constantLong RX6 139 (3), .methodLink RX6 76 yX6_in, .static yX6_in, .code yX6_in cX6_in 6 (some .boolean), .methodLink RX6 113 yX6_refused, .instanceMethod yX6_refused, .selects RX6 yX6_refused yX6_refused, .code yX6_refused cX6_refused 2 (some .int), .fieldLink RX6 65 "WaterConsentModel" "fault" "I", .methodLink RX6 101 yX6_failed, .instanceMethod yX6_failed, .selects RX6 yX6_failed yX6_failed, .code yX6_failed cX6_failed 2 (some .int), .methodLink RX6 105 yX6_isBeyond, .static yX6_isBeyond, .code yX6_isBeyond cX6_isBeyond 4 (some .boolean)] ++ wsX60)
def wsX6_traced : List Cond := .code yX6_traced cX6_traced 2 none :: ([.fieldLink RX6 237 "WaterConsentModel" "traceNow" "I"] ++ wsX60)
def wsX6_tell : List Cond := .code yX6_tell cX6_tell 4 (some .int) :: ([.fieldLink RX6 7 "WaterConsentModel" "kindOf" "[I", .fieldLink RX6 16 "WaterConsentModel" "limitOf" "[I", .methodLink RX6 131 yX6_noReach, .instanceMethod yX6_noReach, .selects RX6 yX6_noReach yX6_noReach, .initialized RX6, .code yX6_noReach cX6_noReach 2 (some .boolean), .fieldLink RX6 73 "WaterConsentModel" "reaches" "I", .methodLink RX6 76 yX6_in, .static yX6_in, .code yX6_in cX6_in 6 (some .boolean), .methodLink RX6 240 yX6_traced, .instanceMethod yX6_traced, .selects RX6 yX6_traced yX6_traced, .code yX6_traced cX6_traced 2 none, .fieldLink RX6 237 "WaterConsentModel" "traceNow" "I"] ++ wsX60)
def wsX6_flatter : List Cond := .code yX6_flatter cX6_flatter 2 (some .int) :: ([.fieldLink RX6 7 "WaterConsentModel" "kindOf" "[I", .methodLink RX6 131 yX6_noReach, .instanceMethod yX6_noReach, .selects RX6 yX6_noReach yX6_noReach, .initialized RX6, .code yX6_noReach cX6_noReach 2 (some .boolean), .fieldLink RX6 73 "WaterConsentModel" "reaches" "I", .methodLink RX6 76 yX6_in, .static yX6_in, .code yX6_in cX6_in 6 (some .boolean), .methodLink RX6 240 yX6_traced, .instanceMethod yX6_traced, .selects RX6 yX6_traced yX6_traced, .code yX6_traced cX6_traced 2 none, .fieldLink RX6 237 "WaterConsentModel" "traceNow" "I"] ++ wsX60)
def wsX6_as : List Cond := .code yX6_as cX6_as 3 (some .int) :: ([.constantLong RX6 116 (2), .fieldLink RX6 7 "WaterConsentModel" "kindOf" "[I", .methodLink RX6 131 yX6_noReach, .instanceMethod yX6_noReach, .selects RX6 yX6_noReach yX6_noReach, .initialized RX6, .code yX6_noReach cX6_noReach 2 (some .boolean), .fieldLink RX6 73 "WaterConsentModel" "reaches" "I", .methodLink RX6 76 yX6_in, .static yX6_in, .code yX6_in cX6_in 6 (some .boolean), .methodLink RX6 113 yX6_refused, .instanceMethod yX6_refused, .selects RX6 yX6_refused yX6_refused, .code yX6_refused cX6_refused 2 (some .int), .fieldLink RX6 65 "WaterConsentModel" "fault" "I", .methodLink RX6 101 yX6_failed, .instanceMethod yX6_failed, .selects RX6 yX6_failed yX6_failed, .code yX6_failed cX6_failed 2 (some .int)] ++ wsX60)
def wsX6_trace : List Cond := .code yX6_trace cX6_trace 1 (some .int) :: ([.fieldLink RX6 237 "WaterConsentModel" "traceNow" "I"] ++ wsX60)
def wsX6_fault : List Cond := .code yX6_fault cX6_fault 1 (some .int) :: ([.fieldLink RX6 65 "WaterConsentModel" "fault" "I"] ++ wsX60)
def wsX6_allLevels : List Cond := .code yX6_allLevels cX6_allLevels 3 (some .int) :: ([.fieldLink RX6 73 "WaterConsentModel" "reaches" "I", .fieldLink RX6 13 "WaterConsentModel" "levelOf" "[I"] ++ wsX60)
def wsX6_many : List Cond := .code yX6_many cX6_many 2 (some .int) :: ([.fieldLink RX6 73 "WaterConsentModel" "reaches" "I", .fieldLink RX6 125 "WaterConsentModel" "rainNow" "I", .fieldLink RX6 128 "WaterConsentModel" "readings" "I", .methodLink RX6 243 yX6_allLevels, .instanceMethod yX6_allLevels, .selects RX6 yX6_allLevels yX6_allLevels, .initialized RX6, .code yX6_allLevels cX6_allLevels 3 (some .int), .fieldLink RX6 13 "WaterConsentModel" "levelOf" "[I"] ++ wsX60)
def wsJ9_max_7cf53 : List Cond := .code yJ9_max_7cf53 cJ9_max_7cf53 2 (some .int) :: ([])
def wsJ9_min_7cf53 : List Cond := .code yJ9_min_7cf53 cJ9_min_7cf53 2 (some .int) :: ([])
def wsL_law_r1 : List Cond := [Cond.classLink RL 7 RX5, Cond.instantiable RX5 7, Cond.initialized RX5, Cond.classLink RL 10 RX6, Cond.instantiable RX6 30, Cond.initialized RX6, Cond.methodLink RL 9 yX5_init, Cond.instanceMethod yX5_init, Cond.code yX5_init cX5_init 2 none, Cond.methodLink RX5 3 objectInit, Cond.instanceMethod objectInit, Cond.code objectInit ⟨#[0xb1]⟩ 1 none, Cond.classLink RX5 11 RX3, Cond.fieldLink RX5 13 "WaterConsent" "sheets" "[LWaterConsent$Sheet;", Cond.classLink RX5 17 RX0, Cond.instantiable RX0 5, Cond.initialized RX0, Cond.fieldLink RX5 20 "WaterConsent" "canal" "LWaterConsent$Canal;", Cond.fieldLink RX5 24 "WaterConsent" "trial" "LWaterConsent$Canal;", Cond.classLink RX5 27 RX1, Cond.instantiable RX1 4, Cond.initialized RX1, Cond.fieldLink RX5 30 "WaterConsent" "readings" "LWaterConsent$Readings;", Cond.classLink RX5 34 RX2]
def wsL_law_r2 : List Cond := [Cond.instantiable RX2 12, Cond.initialized RX2, Cond.fieldLink RX5 37 "WaterConsent" "search" "LWaterConsent$Search;", Cond.instantiable RX3 4, Cond.initialized RX3, Cond.instanceMethod yX0_init, Cond.code yX0_init cX0_init 1 none, Cond.methodLink RX0 3 objectInit, Cond.arrayClass .int, Cond.fieldLink RX0 9 "WaterConsent$Canal" "kind" "[I", Cond.fieldLink RX0 15 "WaterConsent$Canal" "level" "[I", Cond.fieldLink RX0 18 "WaterConsent$Canal" "limit" "[I", Cond.instanceMethod yX1_init, Cond.code yX1_init cX1_init 1 none, Cond.methodLink RX1 3 objectInit, Cond.fieldLink RX1 9 "WaterConsent$Readings" "reach" "[I", Cond.fieldLink RX1 15 "WaterConsent$Readings" "level" "[I", Cond.arrayClass .boolean, Cond.fieldLink RX1 18 "WaterConsent$Readings" "did" "[Z", Cond.instanceMethod yX2_init, Cond.code yX2_init cX2_init 1 none, Cond.methodLink RX2 5 objectInit, Cond.constant RX2 11 (40000), Cond.fieldLink RX2 12 "WaterConsent$Search" "cameBy" "[I"]
def wsL_law_r3 : List Cond := [Cond.fieldLink RX2 16 "WaterConsent$Search" "queue" "[I", Cond.fieldLink RX2 19 "WaterConsent$Search" "row" "[I", Cond.fieldLink RX2 22 "WaterConsent$Search" "length" "I", Cond.constantLong RX2 26 (-1), Cond.fieldLink RX2 28 "WaterConsent$Search" "known" "J", Cond.instanceMethod yX3_init, Cond.code yX3_init cX3_init 1 none, Cond.methodLink RX3 3 objectInit, Cond.fieldLink RX3 9 "WaterConsent$Sheet" "cells" "[I", Cond.methodLink RL 12 yX6_init, Cond.instanceMethod yX6_init, Cond.code yX6_init cX6_init 2 none, Cond.methodLink RX6 1 objectInit, Cond.fieldLink RX6 7 "WaterConsentModel" "kindOf" "[I", Cond.fieldLink RX6 13 "WaterConsentModel" "levelOf" "[I", Cond.fieldLink RX6 16 "WaterConsentModel" "limitOf" "[I", Cond.fieldLink RX6 19 "WaterConsentModel" "readKind" "[I", Cond.fieldLink RX6 22 "WaterConsentModel" "readLevel" "[I", Cond.fieldLink RX6 25 "WaterConsentModel" "readLimit" "[I", Cond.fieldLink RX6 28 "WaterConsentModel" "levelNow" "[I", Cond.constant RX6 31 (40000), Cond.fieldLink RX6 32 "WaterConsentModel" "cameBy" "[I", Cond.fieldLink RX6 35 "WaterConsentModel" "queue" "[I", Cond.fieldLink RX6 38 "WaterConsentModel" "rowFound" "[I"]
def wsL_law_r4 : List Cond := [Cond.fieldLink RX6 41 "WaterConsentModel" "readingOf" "[I", Cond.fieldLink RX6 44 "WaterConsentModel" "readingAt" "[I", Cond.fieldLink RX6 47 "WaterConsentModel" "readingDid" "[Z", Cond.fieldLink RX6 51 "WaterConsentModel" "sheetSize" "[I", Cond.fieldLink RX6 54 "WaterConsentModel" "sheetLane" "[I", Cond.fieldLink RX6 57 "WaterConsentModel" "sheet" "[I", Cond.fieldLink RX6 60 "WaterConsentModel" "hands" "[I", Cond.methodLink RL 13 yX5_canal, Cond.instanceMethod yX5_canal, Cond.selects RX5 yX5_canal yX5_canal, Cond.code yX5_canal cX5_canal 8 (some .int), Cond.fieldLink RX5 42 "WaterConsent" "fault" "I", Cond.fieldLink RX5 72 "WaterConsent$Readings" "count" "I", Cond.fieldLink RX5 75 "WaterConsent$Canal" "count" "I", Cond.methodLink RX5 46 yX5_sheetAt, Cond.instanceMethod yX5_sheetAt, Cond.selects RX5 yX5_sheetAt yX5_sheetAt, Cond.code yX5_sheetAt cX5_sheetAt 2 (some (.object "WaterConsent$Sheet")), Cond.methodLink RX5 50 yX5_isLane, Cond.static yX5_isLane, Cond.code yX5_isLane cX5_isLane 1 (some .boolean), Cond.methodLink RX5 54 yX3_faultOf, Cond.instanceMethod yX3_faultOf, Cond.selects RX3 yX3_faultOf yX3_faultOf]
def wsL_law_r5 : List Cond := [Cond.code yX3_faultOf cX3_faultOf 4 (some .int), Cond.fieldLink RX3 15 "WaterConsent$Sheet" "there" "Z", Cond.fieldLink RX3 19 "WaterConsent$Sheet" "lane" "I", Cond.methodLink RX3 32 yX3_hasCells, Cond.instanceMethod yX3_hasCells, Cond.selects RX3 yX3_hasCells yX3_hasCells, Cond.code yX3_hasCells cX3_hasCells 3 (some .boolean), Cond.fieldLink RX3 23 "WaterConsent$Sheet" "count" "I", Cond.methodLink RX5 58 yX5_faulted, Cond.instanceMethod yX5_faulted, Cond.selects RX5 yX5_faulted yX5_faulted, Cond.code yX5_faulted cX5_faulted 2 (some .int), Cond.methodLink RX5 62 yX4_firstFault, Cond.static yX4_firstFault, Cond.initialized RX4, Cond.code yX4_firstFault cX4_firstFault 5 (some .int), Cond.methodLink RX4 11 Lib.Math.min.name, Cond.static Lib.Math.min.name, Cond.initialized "java/lang/Math", Cond.code Lib.Math.min.name Lib.Math.min.code 2 (some .int), Cond.methodLink RX4 17 yX3_cellAt, Cond.instanceMethod yX3_cellAt, Cond.selects RX3 yX3_cellAt yX3_cellAt, Cond.code yX3_cellAt cX3_cellAt 2 (some .int)]
def wsL_law_r6 : List Cond := [Cond.methodLink RX4 23 yX4_goesOn, Cond.static yX4_goesOn, Cond.code yX4_goesOn cX4_goesOn 2 (some .boolean), Cond.methodLink RX5 68 yX4_take, Cond.static yX4_take, Cond.code yX4_take cX4_take 6 none, Cond.fieldLink RX4 27 "WaterConsent$Canal" "rain" "I", Cond.fieldLink RX4 33 "WaterConsent$Canal" "count" "I", Cond.methodLink RX4 36 yX4_kindOfLetter, Cond.static yX4_kindOfLetter, Cond.code yX4_kindOfLetter cX4_kindOfLetter 1 (some .int), Cond.methodLink RX4 39 yX0_become, Cond.instanceMethod yX0_become, Cond.selects RX0 yX0_become yX0_become, Cond.code yX0_become cX0_become 4 none, Cond.methodLink RX0 25 yX0_has, Cond.instanceMethod yX0_has, Cond.selects RX0 yX0_has yX0_has, Cond.code yX0_has cX0_has 2 (some .boolean), Cond.fieldLink RX0 21 "WaterConsent$Canal" "count" "I", Cond.methodLink RL 17 yX6_canal, Cond.instanceMethod yX6_canal, Cond.selects RX6 yX6_canal yX6_canal, Cond.code yX6_canal cX6_canal 7 (some .int)]
def wsL_law_r7 : List Cond := [Cond.constantLong RX6 116 (2), Cond.fieldLink RX6 80 "WaterConsentModel" "readAt" "I", Cond.fieldLink RX6 94 "WaterConsentModel" "readRain" "I", Cond.fieldLink RX6 125 "WaterConsentModel" "rainNow" "I", Cond.fieldLink RX6 87 "WaterConsentModel" "readReaches" "I", Cond.fieldLink RX6 73 "WaterConsentModel" "reaches" "I", Cond.fieldLink RX6 128 "WaterConsentModel" "readings" "I", Cond.methodLink RX6 109 yX6_noSheet, Cond.static yX6_noSheet, Cond.code yX6_noSheet cX6_noSheet 1 (some .boolean), Cond.constantLong RX6 139 (3), Cond.methodLink RX6 76 yX6_in, Cond.static yX6_in, Cond.code yX6_in cX6_in 6 (some .boolean), Cond.methodLink RX6 113 yX6_refused, Cond.instanceMethod yX6_refused, Cond.selects RX6 yX6_refused yX6_refused, Cond.code yX6_refused cX6_refused 2 (some .int), Cond.fieldLink RX6 65 "WaterConsentModel" "fault" "I", Cond.methodLink RX6 118 yX6_cellsBarred, Cond.instanceMethod yX6_cellsBarred, Cond.selects RX6 yX6_cellsBarred yX6_cellsBarred, Cond.code yX6_cellsBarred cX6_cellsBarred 6 (some .int), Cond.methodLink RX6 101 yX6_failed]
def wsL_law_r8 : List Cond := [Cond.instanceMethod yX6_failed, Cond.selects RX6 yX6_failed yX6_failed, Cond.code yX6_failed cX6_failed 2 (some .int), Cond.methodLink RX6 105 yX6_isBeyond, Cond.static yX6_isBeyond, Cond.code yX6_isBeyond cX6_isBeyond 4 (some .boolean), Cond.methodLink RX6 122 yX6_readsCanal, Cond.instanceMethod yX6_readsCanal, Cond.selects RX6 yX6_readsCanal yX6_readsCanal, Cond.code yX6_readsCanal cX6_readsCanal 4 (some .boolean), Cond.methodLink RX6 83 yX6_codeAt, Cond.instanceMethod yX6_codeAt, Cond.selects RX6 yX6_codeAt yX6_codeAt, Cond.code yX6_codeAt cX6_codeAt 3 (some .int), Cond.methodLink RX6 90 yX6_figure, Cond.instanceMethod yX6_figure, Cond.selects RX6 yX6_figure yX6_figure, Cond.code yX6_figure cX6_figure 6 (some .int), Cond.methodLink RX6 97 yX6_readsReach, Cond.instanceMethod yX6_readsReach, Cond.selects RX6 yX6_readsReach yX6_readsReach, Cond.code yX6_readsReach cX6_readsReach 6 (some .boolean), Cond.methodLink RL 18 yX5_ofReach, Cond.instanceMethod yX5_ofReach]
def wsL_law_r9 : List Cond := [Cond.selects RX5 yX5_ofReach yX5_ofReach, Cond.code yX5_ofReach cX5_ofReach 3 (some .int), Cond.methodLink RX5 76 yX0_has, Cond.methodLink RX5 79 yX0_kindOf, Cond.instanceMethod yX0_kindOf, Cond.selects RX0 yX0_kindOf yX0_kindOf, Cond.code yX0_kindOf cX0_kindOf 2 (some .int), Cond.methodLink RX5 82 yX0_levelOf, Cond.instanceMethod yX0_levelOf, Cond.selects RX0 yX0_levelOf yX0_levelOf, Cond.code yX0_levelOf cX0_levelOf 2 (some .int), Cond.methodLink RX5 85 yX0_limitOf, Cond.instanceMethod yX0_limitOf, Cond.selects RX0 yX0_limitOf yX0_limitOf, Cond.code yX0_limitOf cX0_limitOf 2 (some .int), Cond.methodLink RX5 88 yX0_wantOf, Cond.instanceMethod yX0_wantOf, Cond.selects RX0 yX0_wantOf yX0_wantOf, Cond.code yX0_wantOf cX0_wantOf 3 (some .int), Cond.methodLink RX0 37 Lib.Math.max.name, Cond.static Lib.Math.max.name, Cond.code Lib.Math.max.name Lib.Math.max.code 2 (some .int), Cond.methodLink RX0 33 yX0_limitOf, Cond.methodLink RX0 43 yX0_kindOf]
def wsL_law_r10 : List Cond := [Cond.methodLink RL 22 yX6_ofReach, Cond.instanceMethod yX6_ofReach, Cond.selects RX6 yX6_ofReach yX6_ofReach, Cond.code yX6_ofReach cX6_ofReach 3 (some .int), Cond.methodLink RX6 131 yX6_noReach, Cond.instanceMethod yX6_noReach, Cond.selects RX6 yX6_noReach yX6_noReach, Cond.code yX6_noReach cX6_noReach 2 (some .boolean), Cond.methodLink RX6 134 yX6_wantOf, Cond.instanceMethod yX6_wantOf, Cond.selects RX6 yX6_wantOf yX6_wantOf, Cond.code yX6_wantOf cX6_wantOf 3 (some .int), Cond.methodLink RL 23 yX5_fill, Cond.instanceMethod yX5_fill, Cond.selects RX5 yX5_fill yX5_fill, Cond.code yX5_fill cX5_fill 4 (some .int), Cond.methodLink RX5 91 yX5_isFrom0To, Cond.static yX5_isFrom0To, Cond.code yX5_isFrom0To cX5_isFrom0To 2 (some .boolean), Cond.methodLink RX5 95 yX0_become, Cond.methodLink RL 26 yX6_fill, Cond.instanceMethod yX6_fill, Cond.selects RX6 yX6_fill yX6_fill, Cond.code yX6_fill cX6_fill 4 (some .int)]
def wsL_law_r11 : List Cond := [Cond.constantLong RX6 137 (9), Cond.methodLink RL 27 yX5_rain, Cond.instanceMethod yX5_rain, Cond.selects RX5 yX5_rain yX5_rain, Cond.code yX5_rain cX5_rain 3 (some .int), Cond.fieldLink RX5 103 "WaterConsent$Canal" "rain" "I", Cond.methodLink RX5 99 yX0_isNone, Cond.instanceMethod yX0_isNone, Cond.selects RX0 yX0_isNone yX0_isNone, Cond.code yX0_isNone cX0_isNone 1 (some .boolean), Cond.methodLink RL 31 yX6_rain, Cond.instanceMethod yX6_rain, Cond.selects RX6 yX6_rain yX6_rain, Cond.code yX6_rain cX6_rain 3 (some .int), Cond.methodLink RL 32 yX5_gates, Cond.instanceMethod yX5_gates, Cond.selects RX5 yX5_gates yX5_gates, Cond.code yX5_gates cX5_gates 1 (some .int), Cond.methodLink RX5 106 yX0_gatesThatMayBeOpened, Cond.instanceMethod yX0_gatesThatMayBeOpened, Cond.selects RX0 yX0_gatesThatMayBeOpened yX0_gatesThatMayBeOpened, Cond.code yX0_gatesThatMayBeOpened cX0_gatesThatMayBeOpened 3 (some .int), Cond.methodLink RX0 29 yX0_lastReach, Cond.instanceMethod yX0_lastReach]
def wsL_law_r12 : List Cond := [Cond.selects RX0 yX0_lastReach yX0_lastReach, Cond.code yX0_lastReach cX0_lastReach 1 (some .int), Cond.methodLink RX0 62 yX0_mayBeOpened, Cond.instanceMethod yX0_mayBeOpened, Cond.selects RX0 yX0_mayBeOpened yX0_mayBeOpened, Cond.code yX0_mayBeOpened cX0_mayBeOpened 2 (some .boolean), Cond.methodLink RX0 56 yX0_hasGate, Cond.instanceMethod yX0_hasGate, Cond.selects RX0 yX0_hasGate yX0_hasGate, Cond.code yX0_hasGate cX0_hasGate 2 (some .boolean), Cond.methodLink RX0 53 yX0_levelOf, Cond.methodLink RX0 59 yX0_wantOf, Cond.methodLink RL 36 yX6_gates, Cond.instanceMethod yX6_gates, Cond.selects RX6 yX6_gates yX6_gates, Cond.code yX6_gates cX6_gates 1 (some .int), Cond.methodLink RX6 147 yX6_begin, Cond.instanceMethod yX6_begin, Cond.selects RX6 yX6_begin yX6_begin, Cond.code yX6_begin cX6_begin 2 none, Cond.methodLink RX6 150 yX6_gatesNow, Cond.instanceMethod yX6_gatesNow, Cond.selects RX6 yX6_gatesNow yX6_gatesNow, Cond.code yX6_gatesNow cX6_gatesNow 3 (some .int)]
def wsL_law_r13 : List Cond := [Cond.methodLink RX6 141 yX6_mayOpen, Cond.instanceMethod yX6_mayOpen, Cond.selects RX6 yX6_mayOpen yX6_mayOpen, Cond.code yX6_mayOpen cX6_mayOpen 2 (some .boolean), Cond.methodLink RL 37 yX5_open, Cond.instanceMethod yX5_open, Cond.selects RX5 yX5_open yX5_open, Cond.code yX5_open cX5_open 2 (some .int), Cond.methodLink RX5 110 yX0_hasGate, Cond.methodLink RX5 113 yX0_mayBeOpened, Cond.methodLink RX5 116 yX0_letThrough, Cond.instanceMethod yX0_letThrough, Cond.selects RX0 yX0_letThrough yX0_letThrough, Cond.code yX0_letThrough cX0_letThrough 2 none, Cond.methodLink RX0 49 yX0_become, Cond.methodLink RL 40 yX6_open, Cond.instanceMethod yX6_open, Cond.selects RX6 yX6_open yX6_open, Cond.code yX6_open cX6_open 2 (some .int), Cond.methodLink RX6 154 yX6_does, Cond.instanceMethod yX6_does, Cond.selects RX6 yX6_does yX6_does, Cond.code yX6_does cX6_does 2 (some .boolean), Cond.methodLink RX6 144 yX6_goNight]
def wsL_law_r14 : List Cond := [Cond.instanceMethod yX6_goNight, Cond.selects RX6 yX6_goNight yX6_goNight, Cond.code yX6_goNight cX6_goNight 2 none, Cond.methodLink RX6 157 yX6_end, Cond.instanceMethod yX6_end, Cond.selects RX6 yX6_end yX6_end, Cond.code yX6_end cX6_end 2 none, Cond.methodLink RL 41 yX5_nights, Cond.instanceMethod yX5_nights, Cond.selects RX5 yX5_nights yX5_nights, Cond.code yX5_nights cX5_nights 3 (some .int), Cond.methodLink RX5 120 yX0_passNight, Cond.instanceMethod yX0_passNight, Cond.selects RX0 yX0_passNight yX0_passNight, Cond.code yX0_passNight cX0_passNight 1 none, Cond.fieldLink RX0 46 "WaterConsent$Canal" "rain" "I", Cond.methodLink RX0 65 Lib.Math.min.name, Cond.methodLink RL 44 yX6_nights, Cond.instanceMethod yX6_nights, Cond.selects RX6 yX6_nights yX6_nights, Cond.code yX6_nights cX6_nights 3 (some .int), Cond.constantLong RX6 160 (40), Cond.methodLink RL 45 yX5_acts, Cond.instanceMethod yX5_acts]
def wsL_law_r15 : List Cond := [Cond.selects RX5 yX5_acts yX5_acts, Cond.code yX5_acts cX5_acts 9 (some .int), Cond.methodLink RX5 123 yX5_isWhatOfActs, Cond.static yX5_isWhatOfActs, Cond.code yX5_isWhatOfActs cX5_isWhatOfActs 1 (some .boolean), Cond.methodLink RX5 126 yX5_areActs, Cond.instanceMethod yX5_areActs, Cond.selects RX5 yX5_areActs yX5_areActs, Cond.code yX5_areActs cX5_areActs 5 (some .boolean), Cond.methodLink RX5 141 yX3_cellAt, Cond.methodLink RX5 144 yX0_lastReach, Cond.methodLink RX5 130 yX0_takeOver, Cond.instanceMethod yX0_takeOver, Cond.selects RX0 yX0_takeOver yX0_takeOver, Cond.code yX0_takeOver cX0_takeOver 3 none, Cond.methodLink RX5 134 yX5_actOnTrial, Cond.instanceMethod yX5_actOnTrial, Cond.selects RX5 yX5_actOnTrial yX5_actOnTrial, Cond.code yX5_actOnTrial cX5_actOnTrial 6 (some .int), Cond.methodLink RX5 137 yX5_behindActs, Cond.instanceMethod yX5_behindActs, Cond.selects RX5 yX5_behindActs yX5_behindActs, Cond.code yX5_behindActs cX5_behindActs 5 (some .int), Cond.methodLink RX5 147 yX0_levelsTogether]
def wsL_law_r16 : List Cond := [Cond.instanceMethod yX0_levelsTogether, Cond.selects RX0 yX0_levelsTogether yX0_levelsTogether, Cond.code yX0_levelsTogether cX0_levelsTogether 3 (some .int), Cond.methodLink RX5 150 yX5_openingsAmong, Cond.instanceMethod yX5_openingsAmong, Cond.selects RX5 yX5_openingsAmong yX5_openingsAmong, Cond.code yX5_openingsAmong cX5_openingsAmong 6 (some .int), Cond.methodLink RL 49 yX6_acts, Cond.instanceMethod yX6_acts, Cond.selects RX6 yX6_acts yX6_acts, Cond.code yX6_acts cX6_acts 9 (some .int), Cond.constantLong RX6 171 (10), Cond.constantLong RX6 173 (13), Cond.methodLink RX6 175 yX6_goActs, Cond.instanceMethod yX6_goActs, Cond.selects RX6 yX6_goActs yX6_goActs, Cond.code yX6_goActs cX6_goActs 5 none, Cond.fieldLink RX6 162 "WaterConsentModel" "silence" "I", Cond.fieldLink RX6 165 "WaterConsentModel" "openings" "I", Cond.methodLink RX6 179 yX6_actsBy, Cond.instanceMethod yX6_actsBy, Cond.selects RX6 yX6_actsBy yX6_actsBy, Cond.code yX6_actsBy cX6_actsBy 2 (some .int), Cond.methodLink RX6 168 yX6_levelsNow]
def wsL_law_r17 : List Cond := [Cond.instanceMethod yX6_levelsNow, Cond.selects RX6 yX6_levelsNow yX6_levelsNow, Cond.code yX6_levelsNow cX6_levelsNow 3 (some .int), Cond.methodLink RL 50 yX5_boat, Cond.instanceMethod yX5_boat, Cond.selects RX5 yX5_boat yX5_boat, Cond.code yX5_boat cX5_boat 4 (some .int), Cond.methodLink RX5 153 yX5_isPlaceOfRow, Cond.static yX5_isPlaceOfRow, Cond.code yX5_isPlaceOfRow cX5_isPlaceOfRow 1 (some .boolean), Cond.methodLink RX5 156 yX2_aimBoatAt, Cond.instanceMethod yX2_aimBoatAt, Cond.selects RX2 yX2_aimBoatAt yX2_aimBoatAt, Cond.code yX2_aimBoatAt cX2_aimBoatAt 2 none, Cond.fieldLink RX2 32 "WaterConsent$Search" "byBoat" "Z", Cond.fieldLink RX2 36 "WaterConsent$Search" "goalReach" "I", Cond.fieldLink RX2 39 "WaterConsent$Search" "goalLevel" "I", Cond.methodLink RX5 159 yX2_look, Cond.instanceMethod yX2_look, Cond.selects RX2 yX2_look yX2_look, Cond.code yX2_look cX2_look 6 none, Cond.fieldLink RX2 48 "WaterConsent$Search" "lastReach" "I", Cond.fieldLink RX2 50 "WaterConsent$Canal" "rain" "I", Cond.fieldLink RX2 53 "WaterConsent$Search" "rain" "I"]
def wsL_law_r18 : List Cond := [Cond.fieldLink RX2 54 "WaterConsent$Search" "wants" "I", Cond.methodLink RX2 42 yX0_lastReach, Cond.methodLink RX2 57 yX0_levelOf, Cond.methodLink RX2 61 yX2_weight, Cond.static yX2_weight, Cond.code yX2_weight cX2_weight 1 (some .int), Cond.methodLink RX2 64 yX0_wantOf, Cond.methodLink RX2 67 yX2_keyOf, Cond.instanceMethod yX2_keyOf, Cond.selects RX2 yX2_keyOf yX2_keyOf, Cond.code yX2_keyOf cX2_keyOf 4 (some .long), Cond.constantLong RX2 75 (10000), Cond.constantLong RX2 77 (4), Cond.constantLong RX2 79 (2), Cond.constantLong RX2 81 (10), Cond.methodLink RX2 71 yX2_find, Cond.instanceMethod yX2_find, Cond.selects RX2 yX2_find yX2_find, Cond.code yX2_find cX2_find 6 none, Cond.fieldLink RX2 94 "WaterConsent$Search" "tail" "I", Cond.methodLink RX2 83 yX2_forgetStates, Cond.instanceMethod yX2_forgetStates, Cond.selects RX2 yX2_forgetStates yX2_forgetStates, Cond.code yX2_forgetStates cX2_forgetStates 3 none]
def wsL_law_r19 : List Cond := [Cond.methodLink RX2 103 yX2_isState, Cond.instanceMethod yX2_isState, Cond.selects RX2 yX2_isState yX2_isState, Cond.code yX2_isState cX2_isState 2 (some .boolean), Cond.methodLink RX2 86 yX2_isGoal, Cond.instanceMethod yX2_isGoal, Cond.selects RX2 yX2_isGoal yX2_isGoal, Cond.code yX2_isGoal cX2_isGoal 2 (some .boolean), Cond.methodLink RX2 113 yX2_digit, Cond.static yX2_digit, Cond.code yX2_digit cX2_digit 2 (some .int), Cond.methodLink RX2 90 yX2_comeTo, Cond.instanceMethod yX2_comeTo, Cond.selects RX2 yX2_comeTo yX2_comeTo, Cond.code yX2_comeTo cX2_comeTo 4 (some .boolean), Cond.methodLink RX2 97 yX2_goOnFrom, Cond.instanceMethod yX2_goOnFrom, Cond.selects RX2 yX2_goOnFrom yX2_goOnFrom, Cond.code yX2_goOnFrom cX2_goOnFrom 4 (some .int), Cond.methodLink RX2 106 yX2_behindNight, Cond.instanceMethod yX2_behindNight, Cond.selects RX2 yX2_behindNight yX2_behindNight, Cond.code yX2_behindNight cX2_behindNight 4 (some .int), Cond.methodLink RX2 116 Lib.Math.min.name]
def wsL_law_r20 : List Cond := [Cond.methodLink RX2 109 yX2_behindOpening, Cond.instanceMethod yX2_behindOpening, Cond.selects RX2 yX2_behindOpening yX2_behindOpening, Cond.code yX2_behindOpening cX2_behindOpening 4 (some .int), Cond.methodLink RX2 100 yX2_keepRowTo, Cond.instanceMethod yX2_keepRowTo, Cond.selects RX2 yX2_keepRowTo yX2_keepRowTo, Cond.code yX2_keepRowTo cX2_keepRowTo 5 none, Cond.methodLink RX5 163 yX2_actAt, Cond.instanceMethod yX2_actAt, Cond.selects RX2 yX2_actAt yX2_actAt, Cond.code yX2_actAt cX2_actAt 2 (some .int), Cond.methodLink RL 54 yX6_boat, Cond.instanceMethod yX6_boat, Cond.selects RX6 yX6_boat yX6_boat, Cond.code yX6_boat cX6_boat 4 (some .int), Cond.constantLong RX6 210 (-1), Cond.constantLong RX6 212 (39), Cond.methodLink RX6 214 yX6_fewest, Cond.instanceMethod yX6_fewest, Cond.selects RX6 yX6_fewest yX6_fewest, Cond.code yX6_fewest cX6_fewest 9 (some .int), Cond.fieldLink RX6 182 "WaterConsentModel" "boatNow" "I", Cond.fieldLink RX6 188 "WaterConsentModel" "queued" "I"]
def wsL_law_r21 : List Cond := [Cond.methodLink RX6 185 yX6_wayNow, Cond.instanceMethod yX6_wayNow, Cond.selects RX6 yX6_wayNow yX6_wayNow, Cond.code yX6_wayNow cX6_wayNow 3 (some .int), Cond.methodLink RX6 198 yX6_comeTo, Cond.instanceMethod yX6_comeTo, Cond.selects RX6 yX6_comeTo yX6_comeTo, Cond.code yX6_comeTo cX6_comeTo 4 none, Cond.methodLink RX6 194 yX6_goTo, Cond.instanceMethod yX6_goTo, Cond.selects RX6 yX6_goTo yX6_goTo, Cond.code yX6_goTo cX6_goTo 4 none, Cond.methodLink RX6 201 yX6_isThere, Cond.instanceMethod yX6_isThere, Cond.selects RX6 yX6_isThere yX6_isThere, Cond.code yX6_isThere cX6_isThere 3 (some .boolean), Cond.methodLink RX6 204 yX6_keepRow, Cond.instanceMethod yX6_keepRow, Cond.selects RX6 yX6_keepRow yX6_keepRow, Cond.code yX6_keepRow cX6_keepRow 4 none, Cond.fieldLink RX6 191 "WaterConsentModel" "rowSize" "I", Cond.methodLink RX6 207 yX6_goOn, Cond.instanceMethod yX6_goOn, Cond.selects RX6 yX6_goOn yX6_goOn]
def wsL_law_r22 : List Cond := [Cond.code yX6_goOn cX6_goOn 4 none, Cond.methodLink RX6 217 yX6_actOf, Cond.instanceMethod yX6_actOf, Cond.selects RX6 yX6_actOf yX6_actOf, Cond.code yX6_actOf cX6_actOf 3 (some .int), Cond.methodLink RL 55 yX5_raise, Cond.instanceMethod yX5_raise, Cond.selects RX5 yX5_raise yX5_raise, Cond.code yX5_raise cX5_raise 4 (some .int), Cond.methodLink RX5 166 yX2_aimAtLevel, Cond.instanceMethod yX2_aimAtLevel, Cond.selects RX2 yX2_aimAtLevel yX2_aimAtLevel, Cond.code yX2_aimAtLevel cX2_aimAtLevel 3 none, Cond.methodLink RL 58 yX6_raise, Cond.instanceMethod yX6_raise, Cond.selects RX6 yX6_raise yX6_raise, Cond.code yX6_raise cX6_raise 4 (some .int), Cond.methodLink RL 59 yX5_reading, Cond.instanceMethod yX5_reading, Cond.selects RX5 yX5_reading yX5_reading, Cond.code yX5_reading cX5_reading 4 (some .int), Cond.methodLink RX5 170 yX1_note, Cond.instanceMethod yX1_note, Cond.selects RX1 yX1_note yX1_note]
def wsL_law_r23 : List Cond := [Cond.code yX1_note cX1_note 4 (some .boolean), Cond.fieldLink RX1 22 "WaterConsent$Readings" "count" "I", Cond.methodLink RL 63 yX6_reading, Cond.instanceMethod yX6_reading, Cond.selects RX6 yX6_reading yX6_reading, Cond.code yX6_reading cX6_reading 4 (some .int), Cond.methodLink RL 64 yX5_back, Cond.instanceMethod yX5_back, Cond.selects RX5 yX5_back yX5_back, Cond.code yX5_back cX5_back 2 (some .int), Cond.methodLink RL 67 yX6_back, Cond.instanceMethod yX6_back, Cond.selects RX6 yX6_back yX6_back, Cond.code yX6_back cX6_back 2 (some .int), Cond.methodLink RL 68 yX5_limits, Cond.instanceMethod yX5_limits, Cond.selects RX5 yX5_limits yX5_limits, Cond.code yX5_limits cX5_limits 2 (some .int), Cond.methodLink RX5 174 yX5_numbersThatFit, Cond.instanceMethod yX5_numbersThatFit, Cond.selects RX5 yX5_numbersThatFit yX5_numbersThatFit, Cond.code yX5_numbersThatFit cX5_numbersThatFit 6 (some .int), Cond.methodLink RX5 177 yX1_areSoIn, Cond.instanceMethod yX1_areSoIn]
def wsL_law_r24 : List Cond := [Cond.selects RX1 yX1_areSoIn yX1_areSoIn, Cond.code yX1_areSoIn cX1_areSoIn 4 (some .boolean), Cond.methodLink RX1 26 yX0_levelOf, Cond.methodLink RX1 32 yX0_wantOf, Cond.methodLink RL 71 yX6_limits, Cond.instanceMethod yX6_limits, Cond.selects RX6 yX6_limits yX6_limits, Cond.code yX6_limits cX6_limits 5 (some .int), Cond.methodLink RX6 220 yX6_areSo, Cond.instanceMethod yX6_areSo, Cond.selects RX6 yX6_areSo yX6_areSo, Cond.code yX6_areSo cX6_areSo 5 (some .boolean), Cond.methodLink RL 72 yX5_kinds, Cond.instanceMethod yX5_kinds, Cond.selects RX5 yX5_kinds yX5_kinds, Cond.code yX5_kinds cX5_kinds 2 (some .int), Cond.methodLink RL 75 yX6_kinds, Cond.instanceMethod yX6_kinds, Cond.selects RX6 yX6_kinds yX6_kinds, Cond.code yX6_kinds cX6_kinds 5 (some .int), Cond.methodLink RL 76 yX5_levels, Cond.instanceMethod yX5_levels, Cond.selects RX5 yX5_levels yX5_levels, Cond.code yX5_levels cX5_levels 2 (some .int)]
def wsL_law_r25 : List Cond := [Cond.methodLink RL 79 yX6_levels, Cond.instanceMethod yX6_levels, Cond.selects RX6 yX6_levels yX6_levels, Cond.code yX6_levels cX6_levels 5 (some .int), Cond.methodLink RL 80 yX5_odds, Cond.instanceMethod yX5_odds, Cond.selects RX5 yX5_odds yX5_odds, Cond.code yX5_odds cX5_odds 7 (some .long), Cond.constantLong RX5 181 (-9223372036854775808), Cond.methodLink RX5 183 yJ6_bitCount_0f7a4, Cond.static yJ6_bitCount_0f7a4, Cond.initialized RJ6, Cond.code yJ6_bitCount_0f7a4 cJ6_bitCount_0f7a4 1 (some .int), Cond.constant RJ6 265 (1431655765), Cond.constant RJ6 266 (858993459), Cond.constant RJ6 267 (252645135), Cond.methodLink RX5 188 yX5_levelBehindRain, Cond.instanceMethod yX5_levelBehindRain, Cond.selects RX5 yX5_levelBehindRain yX5_levelBehindRain, Cond.code yX5_levelBehindRain cX5_levelBehindRain 2 (some .int), Cond.methodLink RX5 195 Lib.Math.min.name, Cond.methodLink RX5 191 yX5_greatestCommon, Cond.static yX5_greatestCommon, Cond.code yX5_greatestCommon cX5_greatestCommon 6 (some .int)]
def wsL_law_r26 : List Cond := [Cond.methodLink RL 84 yX6_odds, Cond.instanceMethod yX6_odds, Cond.selects RX6 yX6_odds yX6_odds, Cond.code yX6_odds cX6_odds 9 (some .long), Cond.constantLong RX6 224 (8), Cond.methodLink RX6 69 yX6_lost, Cond.static yX6_lost, Cond.code yX6_lost cX6_lost 0 (some .long), Cond.constantLong RX6 63 (-9223372036854775808), Cond.methodLink RX6 226 yX6_share, Cond.static yX6_share, Cond.code yX6_share cX6_share 11 (some .long), Cond.methodLink RL 85 yX5_sheet, Cond.instanceMethod yX5_sheet, Cond.selects RX5 yX5_sheet yX5_sheet, Cond.code yX5_sheet cX5_sheet 5 (some .int), Cond.methodLink RX5 200 yX3_becomeNew, Cond.instanceMethod yX3_becomeNew, Cond.selects RX3 yX3_becomeNew yX3_becomeNew, Cond.code yX3_becomeNew cX3_becomeNew 3 none, Cond.methodLink RX3 26 yJ7_fill_53178, Cond.static yJ7_fill_53178, Cond.initialized RJ7, Cond.code yJ7_fill_53178 cJ7_fill_53178 4 none]
def wsL_law_r27 : List Cond := [Cond.methodLink RL 88 yX6_sheet, Cond.instanceMethod yX6_sheet, Cond.selects RX6 yX6_sheet yX6_sheet, Cond.code yX6_sheet cX6_sheet 5 (some .int), Cond.methodLink RL 89 yX5_lose, Cond.instanceMethod yX5_lose, Cond.selects RX5 yX5_lose yX5_lose, Cond.code yX5_lose cX5_lose 4 (some .int), Cond.fieldLink RX5 203 "WaterConsent$Sheet" "there" "Z", Cond.methodLink RL 92 yX6_lose, Cond.instanceMethod yX6_lose, Cond.selects RX6 yX6_lose yX6_lose, Cond.code yX6_lose cX6_lose 3 (some .int), Cond.methodLink RL 93 yX5_put, Cond.instanceMethod yX5_put, Cond.selects RX5 yX5_put yX5_put, Cond.code yX5_put cX5_put 6 (some .int), Cond.fieldLink RX5 207 "WaterConsent$Sheet" "lane" "I", Cond.methodLink RX5 210 yX3_setCell, Cond.instanceMethod yX3_setCell, Cond.selects RX3 yX3_setCell yX3_setCell, Cond.code yX3_setCell cX3_setCell 3 none, Cond.methodLink RX3 36 yX3_cutToLane, Cond.instanceMethod yX3_cutToLane]
def wsL_law_r28 : List Cond := [Cond.selects RX3 yX3_cutToLane yX3_cutToLane, Cond.code yX3_cutToLane cX3_cutToLane 2 (some .int), Cond.methodLink RL 96 yX6_put, Cond.instanceMethod yX6_put, Cond.selects RX6 yX6_put yX6_put, Cond.code yX6_put cX6_put 4 (some .int), Cond.methodLink RX6 230 yX6_noCell, Cond.instanceMethod yX6_noCell, Cond.selects RX6 yX6_noCell yX6_noCell, Cond.code yX6_noCell cX6_noCell 3 (some .int), Cond.methodLink RL 97 yX5_cell, Cond.instanceMethod yX5_cell, Cond.selects RX5 yX5_cell yX5_cell, Cond.code yX5_cell cX5_cell 5 (some .long), Cond.methodLink RL 100 yX6_cell, Cond.instanceMethod yX6_cell, Cond.selects RX6 yX6_cell yX6_cell, Cond.code yX6_cell cX6_cell 4 (some .long), Cond.methodLink RX6 233 yX6_failedLong, Cond.instanceMethod yX6_failedLong, Cond.selects RX6 yX6_failedLong yX6_failedLong, Cond.code yX6_failedLong cX6_failedLong 2 (some .long), Cond.methodLink RL 101 yX5_copy, Cond.instanceMethod yX5_copy]
def wsL_law_r29 : List Cond := [Cond.selects RX5 yX5_copy yX5_copy, Cond.code yX5_copy cX5_copy 8 (some .int), Cond.fieldLink RX5 216 "WaterConsent$Sheet" "cells" "[I", Cond.methodLink RX5 220 arraycopyName, Cond.native arraycopyName, Cond.static arraycopyName, Cond.initialized "java/lang/System", Cond.methodLink RX5 213 yX3_hasCells, Cond.methodLink RL 104 yX6_copy, Cond.instanceMethod yX6_copy, Cond.selects RX6 yX6_copy yX6_copy, Cond.code yX6_copy cX6_copy 7 (some .int), Cond.methodLink RL 105 yX5_tell, Cond.instanceMethod yX5_tell, Cond.selects RX5 yX5_tell yX5_tell, Cond.code yX5_tell cX5_tell 2 (some .int), Cond.methodLink RX5 226 yX5_tellingOfSulky, Cond.instanceMethod yX5_tellingOfSulky, Cond.selects RX5 yX5_tellingOfSulky yX5_tellingOfSulky, Cond.code yX5_tellingOfSulky cX5_tellingOfSulky 3 (some .int), Cond.methodLink RX5 235 yX5_leave, Cond.instanceMethod yX5_leave, Cond.selects RX5 yX5_leave yX5_leave, Cond.code yX5_leave cX5_leave 2 none]
def wsL_law_r30 : List Cond := [Cond.fieldLink RX5 244 "WaterConsent" "trace" "I", Cond.methodLink RX5 229 yX5_tellingOfProud, Cond.instanceMethod yX5_tellingOfProud, Cond.selects RX5 yX5_tellingOfProud yX5_tellingOfProud, Cond.code yX5_tellingOfProud cX5_tellingOfProud 2 (some .int), Cond.methodLink RX5 232 yX5_tellingOfMild, Cond.instanceMethod yX5_tellingOfMild, Cond.selects RX5 yX5_tellingOfMild yX5_tellingOfMild, Cond.code yX5_tellingOfMild cX5_tellingOfMild 2 (some .int), Cond.methodLink RL 108 yX6_tell, Cond.instanceMethod yX6_tell, Cond.selects RX6 yX6_tell yX6_tell, Cond.code yX6_tell cX6_tell 4 (some .int), Cond.methodLink RX6 240 yX6_traced, Cond.instanceMethod yX6_traced, Cond.selects RX6 yX6_traced yX6_traced, Cond.code yX6_traced cX6_traced 2 none, Cond.fieldLink RX6 237 "WaterConsentModel" "traceNow" "I", Cond.methodLink RL 109 yX5_flatter, Cond.instanceMethod yX5_flatter, Cond.selects RX5 yX5_flatter yX5_flatter, Cond.code yX5_flatter cX5_flatter 2 (some .int), Cond.methodLink RX5 238 yX5_flatteryOfSulky, Cond.instanceMethod yX5_flatteryOfSulky]
def wsL_law_r31 : List Cond := [Cond.selects RX5 yX5_flatteryOfSulky yX5_flatteryOfSulky, Cond.code yX5_flatteryOfSulky cX5_flatteryOfSulky 1 (some .int), Cond.methodLink RX5 241 yX5_flatteryLent, Cond.instanceMethod yX5_flatteryLent, Cond.selects RX5 yX5_flatteryLent yX5_flatteryLent, Cond.code yX5_flatteryLent cX5_flatteryLent 2 (some .int), Cond.methodLink RL 112 yX6_flatter, Cond.instanceMethod yX6_flatter, Cond.selects RX6 yX6_flatter yX6_flatter, Cond.code yX6_flatter cX6_flatter 2 (some .int), Cond.methodLink RL 113 yX5_as, Cond.instanceMethod yX5_as, Cond.selects RX5 yX5_as yX5_as, Cond.code yX5_as cX5_as 3 (some .int), Cond.methodLink RL 116 yX6_as, Cond.instanceMethod yX6_as, Cond.selects RX6 yX6_as yX6_as, Cond.code yX6_as cX6_as 3 (some .int), Cond.methodLink RL 117 yX5_trace, Cond.instanceMethod yX5_trace, Cond.selects RX5 yX5_trace yX5_trace, Cond.code yX5_trace cX5_trace 1 (some .int), Cond.methodLink RL 120 yX6_trace, Cond.instanceMethod yX6_trace]
def wsL_law_r32 : List Cond := [Cond.selects RX6 yX6_trace yX6_trace, Cond.code yX6_trace cX6_trace 1 (some .int), Cond.methodLink RL 121 yX5_fault, Cond.instanceMethod yX5_fault, Cond.selects RX5 yX5_fault yX5_fault, Cond.code yX5_fault cX5_fault 1 (some .int), Cond.methodLink RL 124 yX6_fault, Cond.instanceMethod yX6_fault, Cond.selects RX6 yX6_fault yX6_fault, Cond.code yX6_fault cX6_fault 1 (some .int), Cond.methodLink RL 125 yX5_many, Cond.instanceMethod yX5_many, Cond.selects RX5 yX5_many yX5_many, Cond.code yX5_many cX5_many 2 (some .int), Cond.methodLink RL 128 yX6_many, Cond.instanceMethod yX6_many, Cond.selects RX6 yX6_many yX6_many, Cond.code yX6_many cX6_many 2 (some .int), Cond.methodLink RX6 243 yX6_allLevels, Cond.instanceMethod yX6_allLevels, Cond.selects RX6 yX6_allLevels yX6_allLevels, Cond.code yX6_allLevels cX6_allLevels 3 (some .int)]
def wsL_law : List Cond := (wsL_law_r1 ++ (wsL_law_r2 ++ (wsL_law_r3 ++ (wsL_law_r4 ++ (wsL_law_r5 ++ (wsL_law_r6 ++ (wsL_law_r7 ++ (wsL_law_r8 ++ (wsL_law_r9 ++ (wsL_law_r10 ++ (wsL_law_r11 ++ (wsL_law_r12 ++ (wsL_law_r13 ++ (wsL_law_r14 ++ (wsL_law_r15 ++ (wsL_law_r16 ++ (wsL_law_r17 ++ (wsL_law_r18 ++ (wsL_law_r19 ++ (wsL_law_r20 ++ (wsL_law_r21 ++ (wsL_law_r22 ++ (wsL_law_r23 ++ (wsL_law_r24 ++ (wsL_law_r25 ++ (wsL_law_r26 ++ (wsL_law_r27 ++ (wsL_law_r28 ++ (wsL_law_r29 ++ (wsL_law_r30 ++ (wsL_law_r31 ++ wsL_law_r32))))))))))))))))))))))))))))))) ++ wsX50 ++ wsX60 ++ wsX00 ++ wsX10 ++ wsX20 ++ wsX30 ++ ([] : List Cond)
theorem inlX0 : ∀ w ∈ wsX00, w ∈ wsL_law := fun _ h => List.mem_append_left _ (List.mem_append_left _ (List.mem_append_left _ (List.mem_append_left _ (List.mem_append_right _ h))))
theorem inlX1 : ∀ w ∈ wsX10, w ∈ wsL_law := fun _ h => List.mem_append_left _ (List.mem_append_left _ (List.mem_append_left _ (List.mem_append_right _ h)))
theorem inlX2 : ∀ w ∈ wsX20, w ∈ wsL_law := fun _ h => List.mem_append_left _ (List.mem_append_left _ (List.mem_append_right _ h))
theorem inlX3 : ∀ w ∈ wsX30, w ∈ wsL_law := fun _ h => List.mem_append_left _ (List.mem_append_right _ h)
theorem inlX5 : ∀ w ∈ wsX50, w ∈ wsL_law := fun _ h => List.mem_append_left _ (List.mem_append_left _ (List.mem_append_left _ (List.mem_append_left _ (List.mem_append_left _ (List.mem_append_left _ (List.mem_append_right _ h))))))
theorem inlX6 : ∀ w ∈ wsX60, w ∈ wsL_law := fun _ h => List.mem_append_left _ (List.mem_append_left _ (List.mem_append_left _ (List.mem_append_left _ (List.mem_append_left _ (List.mem_append_right _ h)))))
theorem inJ6 : ∀ w ∈ wsJ60, w ∈ lw_tbl := by decide +kernel
theorem inJ9 : ∀ w ∈ wsJ90, w ∈ lw_tbl := by decide +kernel
theorem inJ10 : ∀ w ∈ wsJ100, w ∈ lw_tbl := by decide +kernel
theorem inJ7 : ∀ w ∈ wsJ70, w ∈ lw_tbl := by decide +kernel
theorem dX0_init_0 : decode cX0_init 0 = .ok (.aload_n 0, 1) := by decide +kernel
theorem dX0_init_1 : decode cX0_init 1 = .ok (.invokespecial 3, 3) := by decide +kernel
theorem dX0_init_4 : decode cX0_init 4 = .ok (.aload_n 0, 1) := by decide +kernel
theorem dX0_init_5 : decode cX0_init 5 = .ok (.iconst 4, 1) := by decide +kernel
theorem dX0_init_6 : decode cX0_init 6 = .ok (.newarray .int, 2) := by decide +kernel
theorem dX0_init_8 : decode cX0_init 8 = .ok (.putfield 9, 3) := by decide +kernel
theorem dX0_init_11 : decode cX0_init 11 = .ok (.aload_n 0, 1) := by decide +kernel
theorem dX0_init_12 : decode cX0_init 12 = .ok (.iconst 4, 1) := by decide +kernel
theorem dX0_init_13 : decode cX0_init 13 = .ok (.newarray .int, 2) := by decide +kernel
theorem dX0_init_15 : decode cX0_init 15 = .ok (.putfield 15, 3) := by decide +kernel
theorem dX0_init_18 : decode cX0_init 18 = .ok (.aload_n 0, 1) := by decide +kernel
theorem dX0_init_19 : decode cX0_init 19 = .ok (.iconst 4, 1) := by decide +kernel
theorem dX0_init_20 : decode cX0_init 20 = .ok (.newarray .int, 2) := by decide +kernel
theorem dX0_init_22 : decode cX0_init 22 = .ok (.putfield 18, 3) := by decide +kernel
theorem dX0_init_25 : decode cX0_init 25 = .ok (.return_, 1) := by decide +kernel
theorem dX0_isNone_0 : decode cX0_isNone 0 = .ok (.aload_n 0, 1) := by decide +kernel
theorem dX0_isNone_1 : decode cX0_isNone 1 = .ok (.getfield 21, 3) := by decide +kernel
theorem dX0_isNone_4 : decode cX0_isNone 4 = .ok (.ifCond .ne 7, 3) := by decide +kernel
theorem dX0_isNone_7 : decode cX0_isNone 7 = .ok (.iconst 1, 1) := by decide +kernel
theorem dX0_isNone_8 : decode cX0_isNone 8 = .ok (.goto 4, 3) := by decide +kernel
theorem dX0_isNone_11 : decode cX0_isNone 11 = .ok (.iconst 0, 1) := by decide +kernel
theorem dX0_isNone_12 : decode cX0_isNone 12 = .ok (.ireturn, 1) := by decide +kernel
theorem dX0_has_0 : decode cX0_has 0 = .ok (.iload_n 1, 1) := by decide +kernel
theorem dX0_has_1 : decode cX0_has 1 = .ok (.ifCond .lt 20, 3) := by decide +kernel
theorem dX0_has_4 : decode cX0_has 4 = .ok (.iload_n 1, 1) := by decide +kernel
theorem dX0_has_5 : decode cX0_has 5 = .ok (.aload_n 0, 1) := by decide +kernel
theorem dX0_has_6 : decode cX0_has 6 = .ok (.getfield 21, 3) := by decide +kernel
theorem dX0_has_9 : decode cX0_has 9 = .ok (.if_icmp .ge 12, 3) := by decide +kernel
theorem dX0_has_12 : decode cX0_has 12 = .ok (.iload_n 1, 1) := by decide +kernel
theorem dX0_has_13 : decode cX0_has 13 = .ok (.iconst 4, 1) := by decide +kernel
theorem dX0_has_14 : decode cX0_has 14 = .ok (.if_icmp .ge 7, 3) := by decide +kernel
theorem dX0_has_17 : decode cX0_has 17 = .ok (.iconst 1, 1) := by decide +kernel
theorem dX0_has_18 : decode cX0_has 18 = .ok (.goto 4, 3) := by decide +kernel
theorem dX0_has_21 : decode cX0_has 21 = .ok (.iconst 0, 1) := by decide +kernel
theorem dX0_has_22 : decode cX0_has 22 = .ok (.ireturn, 1) := by decide +kernel
theorem dX0_lastReach_0 : decode cX0_lastReach 0 = .ok (.aload_n 0, 1) := by decide +kernel
theorem dX0_lastReach_1 : decode cX0_lastReach 1 = .ok (.getfield 21, 3) := by decide +kernel
theorem dX0_lastReach_4 : decode cX0_lastReach 4 = .ok (.iconst 1, 1) := by decide +kernel
theorem dX0_lastReach_5 : decode cX0_lastReach 5 = .ok (.isub, 1) := by decide +kernel
theorem dX0_lastReach_6 : decode cX0_lastReach 6 = .ok (.ireturn, 1) := by decide +kernel
set_option maxRecDepth 20000 in
theorem ggX0_hasGate_X0_has : GoodIn wsX0_hasGate wsX0_has := goodIn_r _ [5, 6, 11, 12, 13, 14, 15] (by decide +kernel) (by decide +kernel)
set_option maxRecDepth 20000 in
theorem gX0_hasGate_X0_has : GoodIn wsX0_hasGate (wsV RX0 25 RX0 yX0_has wsX0_has) := goodIn_app (goodIn_of _ (by decide +kernel)) ggX0_hasGate_X0_has
set_option maxRecDepth 20000 in
theorem ggX0_hasGate_X0_lastReach : GoodIn wsX0_hasGate wsX0_lastReach := goodIn_r _ [10, 6, 11, 12, 13, 14, 15] (by decide +kernel) (by decide +kernel)
set_option maxRecDepth 20000 in
theorem gX0_hasGate_X0_lastReach : GoodIn wsX0_hasGate (wsV RX0 29 RX0 yX0_lastReach wsX0_lastReach) := goodIn_app (goodIn_of _ (by decide +kernel)) ggX0_hasGate_X0_lastReach
theorem dX0_hasGate_0 : decode cX0_hasGate 0 = .ok (.aload_n 0, 1) := by decide +kernel
theorem dX0_hasGate_1 : decode cX0_hasGate 1 = .ok (.iload_n 1, 1) := by decide +kernel
theorem dX0_hasGate_2 : decode cX0_hasGate 2 = .ok (.invokevirtual 25, 3) := by decide +kernel
theorem dX0_hasGate_5 : decode cX0_hasGate 5 = .ok (.ifCond .eq 15, 3) := by decide +kernel
theorem dX0_hasGate_8 : decode cX0_hasGate 8 = .ok (.iload_n 1, 1) := by decide +kernel
theorem dX0_hasGate_9 : decode cX0_hasGate 9 = .ok (.aload_n 0, 1) := by decide +kernel
theorem dX0_hasGate_10 : decode cX0_hasGate 10 = .ok (.invokevirtual 29, 3) := by decide +kernel
theorem dX0_hasGate_13 : decode cX0_hasGate 13 = .ok (.if_icmp .ge 7, 3) := by decide +kernel
theorem dX0_hasGate_16 : decode cX0_hasGate 16 = .ok (.iconst 1, 1) := by decide +kernel
theorem dX0_hasGate_17 : decode cX0_hasGate 17 = .ok (.goto 4, 3) := by decide +kernel
theorem dX0_hasGate_20 : decode cX0_hasGate 20 = .ok (.iconst 0, 1) := by decide +kernel
theorem dX0_hasGate_21 : decode cX0_hasGate 21 = .ok (.ireturn, 1) := by decide +kernel
set_option maxRecDepth 20000 in
theorem ggX0_kindOf_X0_has : GoodIn wsX0_kindOf wsX0_has := goodIn_r _ [6, 7, 8, 9, 10, 11, 12] (by decide +kernel) (by decide +kernel)
set_option maxRecDepth 20000 in
theorem gX0_kindOf_X0_has : GoodIn wsX0_kindOf (wsV RX0 25 RX0 yX0_has wsX0_has) := goodIn_app (goodIn_of _ (by decide +kernel)) ggX0_kindOf_X0_has
theorem dX0_kindOf_0 : decode cX0_kindOf 0 = .ok (.aload_n 0, 1) := by decide +kernel
theorem dX0_kindOf_1 : decode cX0_kindOf 1 = .ok (.iload_n 1, 1) := by decide +kernel
theorem dX0_kindOf_2 : decode cX0_kindOf 2 = .ok (.invokevirtual 25, 3) := by decide +kernel
theorem dX0_kindOf_5 : decode cX0_kindOf 5 = .ok (.ifCond .eq 21, 3) := by decide +kernel
theorem dX0_kindOf_8 : decode cX0_kindOf 8 = .ok (.iload_n 1, 1) := by decide +kernel
theorem dX0_kindOf_9 : decode cX0_kindOf 9 = .ok (.aload_n 0, 1) := by decide +kernel
theorem dX0_kindOf_10 : decode cX0_kindOf 10 = .ok (.getfield 9, 3) := by decide +kernel
theorem dX0_kindOf_13 : decode cX0_kindOf 13 = .ok (.arraylength, 1) := by decide +kernel
theorem dX0_kindOf_14 : decode cX0_kindOf 14 = .ok (.if_icmp .ge 12, 3) := by decide +kernel
theorem dX0_kindOf_17 : decode cX0_kindOf 17 = .ok (.aload_n 0, 1) := by decide +kernel
theorem dX0_kindOf_18 : decode cX0_kindOf 18 = .ok (.getfield 9, 3) := by decide +kernel
theorem dX0_kindOf_21 : decode cX0_kindOf 21 = .ok (.iload_n 1, 1) := by decide +kernel
theorem dX0_kindOf_22 : decode cX0_kindOf 22 = .ok (.iaload, 1) := by decide +kernel
theorem dX0_kindOf_23 : decode cX0_kindOf 23 = .ok (.goto 4, 3) := by decide +kernel
theorem dX0_kindOf_26 : decode cX0_kindOf 26 = .ok (.iconst 0, 1) := by decide +kernel
theorem dX0_kindOf_27 : decode cX0_kindOf 27 = .ok (.ireturn, 1) := by decide +kernel
set_option maxRecDepth 20000 in
theorem ggX0_levelOf_X0_has : GoodIn wsX0_levelOf wsX0_has := goodIn_r _ [6, 7, 8, 9, 10, 11, 12] (by decide +kernel) (by decide +kernel)
set_option maxRecDepth 20000 in
theorem gX0_levelOf_X0_has : GoodIn wsX0_levelOf (wsV RX0 25 RX0 yX0_has wsX0_has) := goodIn_app (goodIn_of _ (by decide +kernel)) ggX0_levelOf_X0_has
theorem dX0_levelOf_0 : decode cX0_levelOf 0 = .ok (.aload_n 0, 1) := by decide +kernel
theorem dX0_levelOf_1 : decode cX0_levelOf 1 = .ok (.iload_n 1, 1) := by decide +kernel
theorem dX0_levelOf_2 : decode cX0_levelOf 2 = .ok (.invokevirtual 25, 3) := by decide +kernel
theorem dX0_levelOf_5 : decode cX0_levelOf 5 = .ok (.ifCond .eq 21, 3) := by decide +kernel
theorem dX0_levelOf_8 : decode cX0_levelOf 8 = .ok (.iload_n 1, 1) := by decide +kernel
theorem dX0_levelOf_9 : decode cX0_levelOf 9 = .ok (.aload_n 0, 1) := by decide +kernel
theorem dX0_levelOf_10 : decode cX0_levelOf 10 = .ok (.getfield 15, 3) := by decide +kernel
theorem dX0_levelOf_13 : decode cX0_levelOf 13 = .ok (.arraylength, 1) := by decide +kernel
theorem dX0_levelOf_14 : decode cX0_levelOf 14 = .ok (.if_icmp .ge 12, 3) := by decide +kernel
theorem dX0_levelOf_17 : decode cX0_levelOf 17 = .ok (.aload_n 0, 1) := by decide +kernel
theorem dX0_levelOf_18 : decode cX0_levelOf 18 = .ok (.getfield 15, 3) := by decide +kernel
theorem dX0_levelOf_21 : decode cX0_levelOf 21 = .ok (.iload_n 1, 1) := by decide +kernel
theorem dX0_levelOf_22 : decode cX0_levelOf 22 = .ok (.iaload, 1) := by decide +kernel
theorem dX0_levelOf_23 : decode cX0_levelOf 23 = .ok (.goto 4, 3) := by decide +kernel
theorem dX0_levelOf_26 : decode cX0_levelOf 26 = .ok (.iconst 0, 1) := by decide +kernel
theorem dX0_levelOf_27 : decode cX0_levelOf 27 = .ok (.ireturn, 1) := by decide +kernel
set_option maxRecDepth 20000 in
theorem ggX0_limitOf_X0_has : GoodIn wsX0_limitOf wsX0_has := goodIn_r _ [6, 7, 8, 9, 10, 11, 12] (by decide +kernel) (by decide +kernel)
set_option maxRecDepth 20000 in
theorem gX0_limitOf_X0_has : GoodIn wsX0_limitOf (wsV RX0 25 RX0 yX0_has wsX0_has) := goodIn_app (goodIn_of _ (by decide +kernel)) ggX0_limitOf_X0_has
theorem dX0_limitOf_0 : decode cX0_limitOf 0 = .ok (.aload_n 0, 1) := by decide +kernel
theorem dX0_limitOf_1 : decode cX0_limitOf 1 = .ok (.iload_n 1, 1) := by decide +kernel
theorem dX0_limitOf_2 : decode cX0_limitOf 2 = .ok (.invokevirtual 25, 3) := by decide +kernel
theorem dX0_limitOf_5 : decode cX0_limitOf 5 = .ok (.ifCond .eq 21, 3) := by decide +kernel
theorem dX0_limitOf_8 : decode cX0_limitOf 8 = .ok (.iload_n 1, 1) := by decide +kernel
theorem dX0_limitOf_9 : decode cX0_limitOf 9 = .ok (.aload_n 0, 1) := by decide +kernel
theorem dX0_limitOf_10 : decode cX0_limitOf 10 = .ok (.getfield 18, 3) := by decide +kernel
theorem dX0_limitOf_13 : decode cX0_limitOf 13 = .ok (.arraylength, 1) := by decide +kernel
theorem dX0_limitOf_14 : decode cX0_limitOf 14 = .ok (.if_icmp .ge 12, 3) := by decide +kernel
theorem dX0_limitOf_17 : decode cX0_limitOf 17 = .ok (.aload_n 0, 1) := by decide +kernel
theorem dX0_limitOf_18 : decode cX0_limitOf 18 = .ok (.getfield 18, 3) := by decide +kernel
theorem dX0_limitOf_21 : decode cX0_limitOf 21 = .ok (.iload_n 1, 1) := by decide +kernel
theorem dX0_limitOf_22 : decode cX0_limitOf 22 = .ok (.iaload, 1) := by decide +kernel
theorem dX0_limitOf_23 : decode cX0_limitOf 23 = .ok (.goto 4, 3) := by decide +kernel
theorem dX0_limitOf_26 : decode cX0_limitOf 26 = .ok (.iconst 0, 1) := by decide +kernel
theorem dX0_limitOf_27 : decode cX0_limitOf 27 = .ok (.ireturn, 1) := by decide +kernel
set_option maxRecDepth 20000 in
theorem ggX0_wantOf_X0_limitOf : GoodIn wsX0_wantOf wsX0_limitOf := goodIn_r _ [9, 10, 11, 12, 13, 8, 14, 15, 21, 22, 23, 24, 25] (by decide +kernel) (by decide +kernel)
set_option maxRecDepth 20000 in
theorem gX0_wantOf_X0_limitOf : GoodIn wsX0_wantOf (wsV RX0 33 RX0 yX0_limitOf wsX0_limitOf) := goodIn_app (goodIn_of _ (by decide +kernel)) ggX0_wantOf_X0_limitOf
set_option maxRecDepth 20000 in
theorem ggX0_wantOf_X0_kindOf : GoodIn wsX0_wantOf wsX0_kindOf := goodIn_r _ [19, 20, 11, 12, 13, 8, 14, 15, 21, 22, 23, 24, 25] (by decide +kernel) (by decide +kernel)
set_option maxRecDepth 20000 in
theorem gX0_wantOf_X0_kindOf : GoodIn wsX0_wantOf (wsV RX0 43 RX0 yX0_kindOf wsX0_kindOf) := goodIn_app (goodIn_of _ (by decide +kernel)) ggX0_wantOf_X0_kindOf
theorem dX0_wantOf_0 : decode cX0_wantOf 0 = .ok (.iconst 0, 1) := by decide +kernel
theorem dX0_wantOf_1 : decode cX0_wantOf 1 = .ok (.aload_n 0, 1) := by decide +kernel
theorem dX0_wantOf_2 : decode cX0_wantOf 2 = .ok (.iload_n 1, 1) := by decide +kernel
theorem dX0_wantOf_3 : decode cX0_wantOf 3 = .ok (.invokevirtual 33, 3) := by decide +kernel
theorem dX0_wantOf_6 : decode cX0_wantOf 6 = .ok (.iconst 1, 1) := by decide +kernel
theorem dX0_wantOf_7 : decode cX0_wantOf 7 = .ok (.isub, 1) := by decide +kernel
theorem dX0_wantOf_8 : decode cX0_wantOf 8 = .ok (.invokestatic 37, 3) := by decide +kernel
theorem dX0_wantOf_11 : decode cX0_wantOf 11 = .ok (.istore_n 2, 1) := by decide +kernel
theorem dX0_wantOf_12 : decode cX0_wantOf 12 = .ok (.aload_n 0, 1) := by decide +kernel
theorem dX0_wantOf_13 : decode cX0_wantOf 13 = .ok (.iload_n 1, 1) := by decide +kernel
theorem dX0_wantOf_14 : decode cX0_wantOf 14 = .ok (.invokevirtual 43, 3) := by decide +kernel
theorem dX0_wantOf_17 : decode cX0_wantOf 17 = .ok (.lookupswitch 33 #[(1, 31), (2, 27)], 27) := by decide +kernel
theorem dX0_wantOf_44 : decode cX0_wantOf 44 = .ok (.iload_n 2, 1) := by decide +kernel
theorem dX0_wantOf_45 : decode cX0_wantOf 45 = .ok (.iconst 2, 1) := by decide +kernel
theorem dX0_wantOf_46 : decode cX0_wantOf 46 = .ok (.idiv, 1) := by decide +kernel
theorem dX0_wantOf_47 : decode cX0_wantOf 47 = .ok (.ireturn, 1) := by decide +kernel
theorem dX0_wantOf_48 : decode cX0_wantOf 48 = .ok (.iload_n 2, 1) := by decide +kernel
theorem dX0_wantOf_49 : decode cX0_wantOf 49 = .ok (.ireturn, 1) := by decide +kernel
theorem dX0_wantOf_50 : decode cX0_wantOf 50 = .ok (.aload_n 0, 1) := by decide +kernel
theorem dX0_wantOf_51 : decode cX0_wantOf 51 = .ok (.iload_n 1, 1) := by decide +kernel
theorem dX0_wantOf_52 : decode cX0_wantOf 52 = .ok (.invokevirtual 33, 3) := by decide +kernel
theorem dX0_wantOf_55 : decode cX0_wantOf 55 = .ok (.ireturn, 1) := by decide +kernel
set_option maxRecDepth 20000 in
theorem ggX0_become_X0_has : GoodIn wsX0_become wsX0_has := goodIn_r _ [8, 9, 10, 11, 12, 13, 14] (by decide +kernel) (by decide +kernel)
set_option maxRecDepth 20000 in
theorem gX0_become_X0_has : GoodIn wsX0_become (wsV RX0 25 RX0 yX0_has wsX0_has) := goodIn_app (goodIn_of _ (by decide +kernel)) ggX0_become_X0_has
theorem dX0_become_0 : decode cX0_become 0 = .ok (.aload_n 0, 1) := by decide +kernel
theorem dX0_become_1 : decode cX0_become 1 = .ok (.iload_n 1, 1) := by decide +kernel
theorem dX0_become_2 : decode cX0_become 2 = .ok (.invokevirtual 25, 3) := by decide +kernel
theorem dX0_become_5 : decode cX0_become 5 = .ok (.ifCond .ne 4, 3) := by decide +kernel
theorem dX0_become_8 : decode cX0_become 8 = .ok (.return_, 1) := by decide +kernel
theorem dX0_become_9 : decode cX0_become 9 = .ok (.iload_n 2, 1) := by decide +kernel
theorem dX0_become_10 : decode cX0_become 10 = .ok (.ifCond .ne 22, 3) := by decide +kernel
theorem dX0_become_13 : decode cX0_become 13 = .ok (.iload_n 1, 1) := by decide +kernel
theorem dX0_become_14 : decode cX0_become 14 = .ok (.aload_n 0, 1) := by decide +kernel
theorem dX0_become_15 : decode cX0_become 15 = .ok (.getfield 9, 3) := by decide +kernel
theorem dX0_become_18 : decode cX0_become 18 = .ok (.arraylength, 1) := by decide +kernel
theorem dX0_become_19 : decode cX0_become 19 = .ok (.if_icmp .ge 13, 3) := by decide +kernel
theorem dX0_become_22 : decode cX0_become 22 = .ok (.aload_n 0, 1) := by decide +kernel
theorem dX0_become_23 : decode cX0_become 23 = .ok (.getfield 9, 3) := by decide +kernel
theorem dX0_become_26 : decode cX0_become 26 = .ok (.iload_n 1, 1) := by decide +kernel
theorem dX0_become_27 : decode cX0_become 27 = .ok (.iload_n 3, 1) := by decide +kernel
theorem dX0_become_28 : decode cX0_become 28 = .ok (.iastore, 1) := by decide +kernel
theorem dX0_become_29 : decode cX0_become 29 = .ok (.goto 48, 3) := by decide +kernel
theorem dX0_become_32 : decode cX0_become 32 = .ok (.iload_n 2, 1) := by decide +kernel
theorem dX0_become_33 : decode cX0_become 33 = .ok (.iconst 1, 1) := by decide +kernel
theorem dX0_become_34 : decode cX0_become 34 = .ok (.if_icmp .ne 22, 3) := by decide +kernel
theorem dX0_become_37 : decode cX0_become 37 = .ok (.iload_n 1, 1) := by decide +kernel
theorem dX0_become_38 : decode cX0_become 38 = .ok (.aload_n 0, 1) := by decide +kernel
theorem dX0_become_39 : decode cX0_become 39 = .ok (.getfield 15, 3) := by decide +kernel
theorem dX0_become_42 : decode cX0_become 42 = .ok (.arraylength, 1) := by decide +kernel
theorem dX0_become_43 : decode cX0_become 43 = .ok (.if_icmp .ge 13, 3) := by decide +kernel
theorem dX0_become_46 : decode cX0_become 46 = .ok (.aload_n 0, 1) := by decide +kernel
theorem dX0_become_47 : decode cX0_become 47 = .ok (.getfield 15, 3) := by decide +kernel
theorem dX0_become_50 : decode cX0_become 50 = .ok (.iload_n 1, 1) := by decide +kernel
theorem dX0_become_51 : decode cX0_become 51 = .ok (.iload_n 3, 1) := by decide +kernel
theorem dX0_become_52 : decode cX0_become 52 = .ok (.iastore, 1) := by decide +kernel
theorem dX0_become_53 : decode cX0_become 53 = .ok (.goto 24, 3) := by decide +kernel
theorem dX0_become_56 : decode cX0_become 56 = .ok (.iload_n 2, 1) := by decide +kernel
theorem dX0_become_57 : decode cX0_become 57 = .ok (.iconst 2, 1) := by decide +kernel
theorem dX0_become_58 : decode cX0_become 58 = .ok (.if_icmp .ne 19, 3) := by decide +kernel
theorem dX0_become_61 : decode cX0_become 61 = .ok (.iload_n 1, 1) := by decide +kernel
theorem dX0_become_62 : decode cX0_become 62 = .ok (.aload_n 0, 1) := by decide +kernel
theorem dX0_become_63 : decode cX0_become 63 = .ok (.getfield 18, 3) := by decide +kernel
theorem dX0_become_66 : decode cX0_become 66 = .ok (.arraylength, 1) := by decide +kernel
theorem dX0_become_67 : decode cX0_become 67 = .ok (.if_icmp .ge 10, 3) := by decide +kernel
theorem dX0_become_70 : decode cX0_become 70 = .ok (.aload_n 0, 1) := by decide +kernel
theorem dX0_become_71 : decode cX0_become 71 = .ok (.getfield 18, 3) := by decide +kernel
theorem dX0_become_74 : decode cX0_become 74 = .ok (.iload_n 1, 1) := by decide +kernel
theorem dX0_become_75 : decode cX0_become 75 = .ok (.iload_n 3, 1) := by decide +kernel
theorem dX0_become_76 : decode cX0_become 76 = .ok (.iastore, 1) := by decide +kernel
theorem dX0_become_77 : decode cX0_become 77 = .ok (.return_, 1) := by decide +kernel
set_option maxRecDepth 20000 in
theorem ggX0_takeOver_X0_kindOf : GoodIn wsX0_takeOver wsX0_kindOf := goodIn_r _ [7, 8, 9, 10, 11, 6, 12, 1, 27, 28, 29, 30, 31] (by decide +kernel) (by decide +kernel)
set_option maxRecDepth 20000 in
theorem gX0_takeOver_X0_kindOf : GoodIn wsX0_takeOver (wsV RX0 43 RX0 yX0_kindOf wsX0_kindOf) := goodIn_app (goodIn_of _ (by decide +kernel)) ggX0_takeOver_X0_kindOf
set_option maxRecDepth 20000 in
theorem ggX0_takeOver_X0_become : GoodIn wsX0_takeOver wsX0_become := goodIn_r _ [16, 8, 17, 18, 9, 10, 11, 6, 12, 1, 27, 28, 29, 30, 31] (by decide +kernel) (by decide +kernel)
set_option maxRecDepth 20000 in
theorem gX0_takeOver_X0_become : GoodIn wsX0_takeOver (wsV RX0 49 RX0 yX0_become wsX0_become) := goodIn_app (goodIn_of _ (by decide +kernel)) ggX0_takeOver_X0_become
set_option maxRecDepth 20000 in
theorem ggX0_takeOver_X0_levelOf : GoodIn wsX0_takeOver wsX0_levelOf := goodIn_r _ [22, 17, 9, 10, 11, 6, 12, 1, 27, 28, 29, 30, 31] (by decide +kernel) (by decide +kernel)
set_option maxRecDepth 20000 in
theorem gX0_takeOver_X0_levelOf : GoodIn wsX0_takeOver (wsV RX0 53 RX0 yX0_levelOf wsX0_levelOf) := goodIn_app (goodIn_of _ (by decide +kernel)) ggX0_takeOver_X0_levelOf
set_option maxRecDepth 20000 in
theorem ggX0_takeOver_X0_limitOf : GoodIn wsX0_takeOver wsX0_limitOf := goodIn_r _ [26, 18, 9, 10, 11, 6, 12, 1, 27, 28, 29, 30, 31] (by decide +kernel) (by decide +kernel)
set_option maxRecDepth 20000 in
theorem gX0_takeOver_X0_limitOf : GoodIn wsX0_takeOver (wsV RX0 33 RX0 yX0_limitOf wsX0_limitOf) := goodIn_app (goodIn_of _ (by decide +kernel)) ggX0_takeOver_X0_limitOf
theorem dX0_takeOver_0 : decode cX0_takeOver 0 = .ok (.aload_n 0, 1) := by decide +kernel
theorem dX0_takeOver_1 : decode cX0_takeOver 1 = .ok (.aload_n 1, 1) := by decide +kernel
theorem dX0_takeOver_2 : decode cX0_takeOver 2 = .ok (.getfield 21, 3) := by decide +kernel
theorem dX0_takeOver_5 : decode cX0_takeOver 5 = .ok (.putfield 21, 3) := by decide +kernel
theorem dX0_takeOver_8 : decode cX0_takeOver 8 = .ok (.aload_n 0, 1) := by decide +kernel
theorem dX0_takeOver_9 : decode cX0_takeOver 9 = .ok (.aload_n 1, 1) := by decide +kernel
theorem dX0_takeOver_10 : decode cX0_takeOver 10 = .ok (.getfield 46, 3) := by decide +kernel
theorem dX0_takeOver_13 : decode cX0_takeOver 13 = .ok (.putfield 46, 3) := by decide +kernel
theorem dX0_takeOver_16 : decode cX0_takeOver 16 = .ok (.iconst 0, 1) := by decide +kernel
theorem dX0_takeOver_17 : decode cX0_takeOver 17 = .ok (.istore_n 2, 1) := by decide +kernel
theorem dX0_takeOver_18 : decode cX0_takeOver 18 = .ok (.iload_n 2, 1) := by decide +kernel
theorem dX0_takeOver_19 : decode cX0_takeOver 19 = .ok (.aload_n 0, 1) := by decide +kernel
theorem dX0_takeOver_20 : decode cX0_takeOver 20 = .ok (.getfield 21, 3) := by decide +kernel
theorem dX0_takeOver_23 : decode cX0_takeOver 23 = .ok (.if_icmp .ge 42, 3) := by decide +kernel
theorem dX0_takeOver_26 : decode cX0_takeOver 26 = .ok (.aload_n 0, 1) := by decide +kernel
theorem dX0_takeOver_27 : decode cX0_takeOver 27 = .ok (.iload_n 2, 1) := by decide +kernel
theorem dX0_takeOver_28 : decode cX0_takeOver 28 = .ok (.iconst 0, 1) := by decide +kernel
theorem dX0_takeOver_29 : decode cX0_takeOver 29 = .ok (.aload_n 1, 1) := by decide +kernel
theorem dX0_takeOver_30 : decode cX0_takeOver 30 = .ok (.iload_n 2, 1) := by decide +kernel
theorem dX0_takeOver_31 : decode cX0_takeOver 31 = .ok (.invokevirtual 43, 3) := by decide +kernel
theorem dX0_takeOver_34 : decode cX0_takeOver 34 = .ok (.invokevirtual 49, 3) := by decide +kernel
theorem dX0_takeOver_37 : decode cX0_takeOver 37 = .ok (.aload_n 0, 1) := by decide +kernel
theorem dX0_takeOver_38 : decode cX0_takeOver 38 = .ok (.iload_n 2, 1) := by decide +kernel
theorem dX0_takeOver_39 : decode cX0_takeOver 39 = .ok (.iconst 1, 1) := by decide +kernel
theorem dX0_takeOver_40 : decode cX0_takeOver 40 = .ok (.aload_n 1, 1) := by decide +kernel
theorem dX0_takeOver_41 : decode cX0_takeOver 41 = .ok (.iload_n 2, 1) := by decide +kernel
theorem dX0_takeOver_42 : decode cX0_takeOver 42 = .ok (.invokevirtual 53, 3) := by decide +kernel
theorem dX0_takeOver_45 : decode cX0_takeOver 45 = .ok (.invokevirtual 49, 3) := by decide +kernel
theorem dX0_takeOver_48 : decode cX0_takeOver 48 = .ok (.aload_n 0, 1) := by decide +kernel
theorem dX0_takeOver_49 : decode cX0_takeOver 49 = .ok (.iload_n 2, 1) := by decide +kernel
theorem dX0_takeOver_50 : decode cX0_takeOver 50 = .ok (.iconst 2, 1) := by decide +kernel
theorem dX0_takeOver_51 : decode cX0_takeOver 51 = .ok (.aload_n 1, 1) := by decide +kernel
theorem dX0_takeOver_52 : decode cX0_takeOver 52 = .ok (.iload_n 2, 1) := by decide +kernel
theorem dX0_takeOver_53 : decode cX0_takeOver 53 = .ok (.invokevirtual 33, 3) := by decide +kernel
theorem dX0_takeOver_56 : decode cX0_takeOver 56 = .ok (.invokevirtual 49, 3) := by decide +kernel
theorem dX0_takeOver_59 : decode cX0_takeOver 59 = .ok (.iinc 2 1, 3) := by decide +kernel
theorem dX0_takeOver_62 : decode cX0_takeOver 62 = .ok (.goto (-44), 3) := by decide +kernel
theorem dX0_takeOver_65 : decode cX0_takeOver 65 = .ok (.return_, 1) := by decide +kernel
set_option maxRecDepth 20000 in
theorem ggX0_mayBeOpened_X0_hasGate : GoodIn wsX0_mayBeOpened wsX0_hasGate := goodIn_r _ [5, 6, 7, 8, 4, 9, 10, 11, 12, 13, 14, 38, 39, 40, 41, 42] (by decide +kernel) (by decide +kernel)
set_option maxRecDepth 20000 in
theorem gX0_mayBeOpened_X0_hasGate : GoodIn wsX0_mayBeOpened (wsV RX0 56 RX0 yX0_hasGate wsX0_hasGate) := goodIn_app (goodIn_of _ (by decide +kernel)) ggX0_mayBeOpened_X0_hasGate
set_option maxRecDepth 20000 in
theorem ggX0_mayBeOpened_X0_levelOf : GoodIn wsX0_mayBeOpened wsX0_levelOf := goodIn_r _ [18, 19, 6, 7, 8, 4, 9, 10, 38, 39, 40, 41, 42] (by decide +kernel) (by decide +kernel)
set_option maxRecDepth 20000 in
theorem gX0_mayBeOpened_X0_levelOf : GoodIn wsX0_mayBeOpened (wsV RX0 53 RX0 yX0_levelOf wsX0_levelOf) := goodIn_app (goodIn_of _ (by decide +kernel)) ggX0_mayBeOpened_X0_levelOf
set_option maxRecDepth 20000 in
theorem ggX0_mayBeOpened_X0_wantOf : GoodIn wsX0_mayBeOpened wsX0_wantOf := goodIn_r _ [23, 24, 25, 26, 27, 28, 29, 30, 4, 31, 32, 6, 7, 8, 9, 10, 33, 34, 35, 36, 37, 38, 39, 40, 41, 42] (by decide +kernel) (by decide +kernel)
set_option maxRecDepth 20000 in
theorem gX0_mayBeOpened_X0_wantOf : GoodIn wsX0_mayBeOpened (wsV RX0 59 RX0 yX0_wantOf wsX0_wantOf) := goodIn_app (goodIn_of _ (by decide +kernel)) ggX0_mayBeOpened_X0_wantOf
theorem dX0_mayBeOpened_0 : decode cX0_mayBeOpened 0 = .ok (.aload_n 0, 1) := by decide +kernel
theorem dX0_mayBeOpened_1 : decode cX0_mayBeOpened 1 = .ok (.iload_n 1, 1) := by decide +kernel
theorem dX0_mayBeOpened_2 : decode cX0_mayBeOpened 2 = .ok (.invokevirtual 56, 3) := by decide +kernel
theorem dX0_mayBeOpened_5 : decode cX0_mayBeOpened 5 = .ok (.ifCond .eq 33, 3) := by decide +kernel
theorem dX0_mayBeOpened_8 : decode cX0_mayBeOpened 8 = .ok (.aload_n 0, 1) := by decide +kernel
theorem dX0_mayBeOpened_9 : decode cX0_mayBeOpened 9 = .ok (.iload_n 1, 1) := by decide +kernel
theorem dX0_mayBeOpened_10 : decode cX0_mayBeOpened 10 = .ok (.invokevirtual 53, 3) := by decide +kernel
theorem dX0_mayBeOpened_13 : decode cX0_mayBeOpened 13 = .ok (.iconst 1, 1) := by decide +kernel
theorem dX0_mayBeOpened_14 : decode cX0_mayBeOpened 14 = .ok (.if_icmp .lt 24, 3) := by decide +kernel
theorem dX0_mayBeOpened_17 : decode cX0_mayBeOpened 17 = .ok (.aload_n 0, 1) := by decide +kernel
theorem dX0_mayBeOpened_18 : decode cX0_mayBeOpened 18 = .ok (.iload_n 1, 1) := by decide +kernel
theorem dX0_mayBeOpened_19 : decode cX0_mayBeOpened 19 = .ok (.iconst 1, 1) := by decide +kernel
theorem dX0_mayBeOpened_20 : decode cX0_mayBeOpened 20 = .ok (.iadd, 1) := by decide +kernel
theorem dX0_mayBeOpened_21 : decode cX0_mayBeOpened 21 = .ok (.invokevirtual 53, 3) := by decide +kernel
theorem dX0_mayBeOpened_24 : decode cX0_mayBeOpened 24 = .ok (.aload_n 0, 1) := by decide +kernel
theorem dX0_mayBeOpened_25 : decode cX0_mayBeOpened 25 = .ok (.iload_n 1, 1) := by decide +kernel
theorem dX0_mayBeOpened_26 : decode cX0_mayBeOpened 26 = .ok (.iconst 1, 1) := by decide +kernel
theorem dX0_mayBeOpened_27 : decode cX0_mayBeOpened 27 = .ok (.iadd, 1) := by decide +kernel
theorem dX0_mayBeOpened_28 : decode cX0_mayBeOpened 28 = .ok (.invokevirtual 59, 3) := by decide +kernel
theorem dX0_mayBeOpened_31 : decode cX0_mayBeOpened 31 = .ok (.if_icmp .ge 7, 3) := by decide +kernel
theorem dX0_mayBeOpened_34 : decode cX0_mayBeOpened 34 = .ok (.iconst 1, 1) := by decide +kernel
theorem dX0_mayBeOpened_35 : decode cX0_mayBeOpened 35 = .ok (.goto 4, 3) := by decide +kernel
theorem dX0_mayBeOpened_38 : decode cX0_mayBeOpened 38 = .ok (.iconst 0, 1) := by decide +kernel
theorem dX0_mayBeOpened_39 : decode cX0_mayBeOpened 39 = .ok (.ireturn, 1) := by decide +kernel
set_option maxRecDepth 20000 in
theorem ggX0_gatesThatMayBeOpened_X0_lastReach : GoodIn wsX0_gatesThatMayBeOpened wsX0_lastReach := goodIn_r _ [5, 6, 42, 43, 44, 45, 46] (by decide +kernel) (by decide +kernel)
set_option maxRecDepth 20000 in
theorem gX0_gatesThatMayBeOpened_X0_lastReach : GoodIn wsX0_gatesThatMayBeOpened (wsV RX0 29 RX0 yX0_lastReach wsX0_lastReach) := goodIn_app (goodIn_of _ (by decide +kernel)) ggX0_gatesThatMayBeOpened_X0_lastReach
set_option maxRecDepth 20000 in
theorem ggX0_gatesThatMayBeOpened_X0_mayBeOpened : GoodIn wsX0_gatesThatMayBeOpened wsX0_mayBeOpened := goodIn_r _ [10, 11, 12, 13, 4, 14, 15, 16, 17, 18, 6, 1, 2, 3, 5, 19, 20, 21, 22, 23, 24, 25, 26, 27, 28, 29, 30, 31, 32, 33, 34, 35, 36, 37, 38, 39, 40, 41, 42, 43, 44, 45, 46] (by decide +kernel) (by decide +kernel)
set_option maxRecDepth 20000 in
theorem gX0_gatesThatMayBeOpened_X0_mayBeOpened : GoodIn wsX0_gatesThatMayBeOpened (wsV RX0 62 RX0 yX0_mayBeOpened wsX0_mayBeOpened) := goodIn_app (goodIn_of _ (by decide +kernel)) ggX0_gatesThatMayBeOpened_X0_mayBeOpened
theorem dX0_gatesThatMayBeOpened_0 : decode cX0_gatesThatMayBeOpened 0 = .ok (.iconst 0, 1) := by decide +kernel
theorem dX0_gatesThatMayBeOpened_1 : decode cX0_gatesThatMayBeOpened 1 = .ok (.istore_n 1, 1) := by decide +kernel
theorem dX0_gatesThatMayBeOpened_2 : decode cX0_gatesThatMayBeOpened 2 = .ok (.iconst 0, 1) := by decide +kernel
theorem dX0_gatesThatMayBeOpened_3 : decode cX0_gatesThatMayBeOpened 3 = .ok (.istore_n 2, 1) := by decide +kernel
theorem dX0_gatesThatMayBeOpened_4 : decode cX0_gatesThatMayBeOpened 4 = .ok (.iload_n 2, 1) := by decide +kernel
theorem dX0_gatesThatMayBeOpened_5 : decode cX0_gatesThatMayBeOpened 5 = .ok (.aload_n 0, 1) := by decide +kernel
theorem dX0_gatesThatMayBeOpened_6 : decode cX0_gatesThatMayBeOpened 6 = .ok (.invokevirtual 29, 3) := by decide +kernel
theorem dX0_gatesThatMayBeOpened_9 : decode cX0_gatesThatMayBeOpened 9 = .ok (.if_icmp .ge 23, 3) := by decide +kernel
theorem dX0_gatesThatMayBeOpened_12 : decode cX0_gatesThatMayBeOpened 12 = .ok (.aload_n 0, 1) := by decide +kernel
theorem dX0_gatesThatMayBeOpened_13 : decode cX0_gatesThatMayBeOpened 13 = .ok (.iload_n 2, 1) := by decide +kernel
theorem dX0_gatesThatMayBeOpened_14 : decode cX0_gatesThatMayBeOpened 14 = .ok (.invokevirtual 62, 3) := by decide +kernel
theorem dX0_gatesThatMayBeOpened_17 : decode cX0_gatesThatMayBeOpened 17 = .ok (.ifCond .eq 9, 3) := by decide +kernel
theorem dX0_gatesThatMayBeOpened_20 : decode cX0_gatesThatMayBeOpened 20 = .ok (.iload_n 1, 1) := by decide +kernel
theorem dX0_gatesThatMayBeOpened_21 : decode cX0_gatesThatMayBeOpened 21 = .ok (.iconst 1, 1) := by decide +kernel
theorem dX0_gatesThatMayBeOpened_22 : decode cX0_gatesThatMayBeOpened 22 = .ok (.iload_n 2, 1) := by decide +kernel
theorem dX0_gatesThatMayBeOpened_23 : decode cX0_gatesThatMayBeOpened 23 = .ok (.ishl, 1) := by decide +kernel
theorem dX0_gatesThatMayBeOpened_24 : decode cX0_gatesThatMayBeOpened 24 = .ok (.ior, 1) := by decide +kernel
theorem dX0_gatesThatMayBeOpened_25 : decode cX0_gatesThatMayBeOpened 25 = .ok (.istore_n 1, 1) := by decide +kernel
theorem dX0_gatesThatMayBeOpened_26 : decode cX0_gatesThatMayBeOpened 26 = .ok (.iinc 2 1, 3) := by decide +kernel
theorem dX0_gatesThatMayBeOpened_29 : decode cX0_gatesThatMayBeOpened 29 = .ok (.goto (-25), 3) := by decide +kernel
theorem dX0_gatesThatMayBeOpened_32 : decode cX0_gatesThatMayBeOpened 32 = .ok (.iload_n 1, 1) := by decide +kernel
theorem dX0_gatesThatMayBeOpened_33 : decode cX0_gatesThatMayBeOpened 33 = .ok (.ireturn, 1) := by decide +kernel
set_option maxRecDepth 20000 in
theorem ggX0_letThrough_X0_levelOf : GoodIn wsX0_letThrough wsX0_levelOf := goodIn_r _ [5, 6, 7, 8, 9, 4, 10, 11, 18, 19, 20, 21, 22] (by decide +kernel) (by decide +kernel)
set_option maxRecDepth 20000 in
theorem gX0_letThrough_X0_levelOf : GoodIn wsX0_letThrough (wsV RX0 53 RX0 yX0_levelOf wsX0_levelOf) := goodIn_app (goodIn_of _ (by decide +kernel)) ggX0_letThrough_X0_levelOf
set_option maxRecDepth 20000 in
theorem ggX0_letThrough_X0_become : GoodIn wsX0_letThrough wsX0_become := goodIn_r _ [15, 16, 6, 17, 7, 8, 9, 4, 10, 11, 18, 19, 20, 21, 22] (by decide +kernel) (by decide +kernel)
set_option maxRecDepth 20000 in
theorem gX0_letThrough_X0_become : GoodIn wsX0_letThrough (wsV RX0 49 RX0 yX0_become wsX0_become) := goodIn_app (goodIn_of _ (by decide +kernel)) ggX0_letThrough_X0_become
theorem dX0_letThrough_0 : decode cX0_letThrough 0 = .ok (.aload_n 0, 1) := by decide +kernel
theorem dX0_letThrough_1 : decode cX0_letThrough 1 = .ok (.iload_n 1, 1) := by decide +kernel
theorem dX0_letThrough_2 : decode cX0_letThrough 2 = .ok (.iconst 1, 1) := by decide +kernel
theorem dX0_letThrough_3 : decode cX0_letThrough 3 = .ok (.aload_n 0, 1) := by decide +kernel
theorem dX0_letThrough_4 : decode cX0_letThrough 4 = .ok (.iload_n 1, 1) := by decide +kernel
theorem dX0_letThrough_5 : decode cX0_letThrough 5 = .ok (.invokevirtual 53, 3) := by decide +kernel
theorem dX0_letThrough_8 : decode cX0_letThrough 8 = .ok (.iconst 1, 1) := by decide +kernel
theorem dX0_letThrough_9 : decode cX0_letThrough 9 = .ok (.isub, 1) := by decide +kernel
theorem dX0_letThrough_10 : decode cX0_letThrough 10 = .ok (.invokevirtual 49, 3) := by decide +kernel
theorem dX0_letThrough_13 : decode cX0_letThrough 13 = .ok (.aload_n 0, 1) := by decide +kernel
theorem dX0_letThrough_14 : decode cX0_letThrough 14 = .ok (.iload_n 1, 1) := by decide +kernel
theorem dX0_letThrough_15 : decode cX0_letThrough 15 = .ok (.iconst 1, 1) := by decide +kernel
theorem dX0_letThrough_16 : decode cX0_letThrough 16 = .ok (.iadd, 1) := by decide +kernel
theorem dX0_letThrough_17 : decode cX0_letThrough 17 = .ok (.iconst 1, 1) := by decide +kernel
theorem dX0_letThrough_18 : decode cX0_letThrough 18 = .ok (.aload_n 0, 1) := by decide +kernel
theorem dX0_letThrough_19 : decode cX0_letThrough 19 = .ok (.iload_n 1, 1) := by decide +kernel
theorem dX0_letThrough_20 : decode cX0_letThrough 20 = .ok (.iconst 1, 1) := by decide +kernel
theorem dX0_letThrough_21 : decode cX0_letThrough 21 = .ok (.iadd, 1) := by decide +kernel
theorem dX0_letThrough_22 : decode cX0_letThrough 22 = .ok (.invokevirtual 53, 3) := by decide +kernel
theorem dX0_letThrough_25 : decode cX0_letThrough 25 = .ok (.iconst 1, 1) := by decide +kernel
theorem dX0_letThrough_26 : decode cX0_letThrough 26 = .ok (.iadd, 1) := by decide +kernel
theorem dX0_letThrough_27 : decode cX0_letThrough 27 = .ok (.invokevirtual 49, 3) := by decide +kernel
theorem dX0_letThrough_30 : decode cX0_letThrough 30 = .ok (.return_, 1) := by decide +kernel
set_option maxRecDepth 20000 in
theorem ggX0_passNight_X0_levelOf : GoodIn wsX0_passNight wsX0_levelOf := goodIn_r _ [13, 14, 15, 16, 17, 12, 18, 19, 30, 31, 32, 33, 34] (by decide +kernel) (by decide +kernel)
set_option maxRecDepth 20000 in
theorem gX0_passNight_X0_levelOf : GoodIn wsX0_passNight (wsV RX0 53 RX0 yX0_levelOf wsX0_levelOf) := goodIn_app (goodIn_of _ (by decide +kernel)) ggX0_passNight_X0_levelOf
set_option maxRecDepth 20000 in
theorem ggX0_passNight_X0_become : GoodIn wsX0_passNight wsX0_become := goodIn_r _ [23, 24, 14, 25, 15, 16, 17, 12, 18, 19, 30, 31, 32, 33, 34] (by decide +kernel) (by decide +kernel)
set_option maxRecDepth 20000 in
theorem gX0_passNight_X0_become : GoodIn wsX0_passNight (wsV RX0 49 RX0 yX0_become wsX0_become) := goodIn_app (goodIn_of _ (by decide +kernel)) ggX0_passNight_X0_become
set_option maxRecDepth 20000 in
theorem ggX0_passNight_X0_lastReach : GoodIn wsX0_passNight wsX0_lastReach := goodIn_r _ [29, 19, 30, 31, 32, 33, 34] (by decide +kernel) (by decide +kernel)
set_option maxRecDepth 20000 in
theorem gX0_passNight_X0_lastReach : GoodIn wsX0_passNight (wsV RX0 29 RX0 yX0_lastReach wsX0_lastReach) := goodIn_app (goodIn_of _ (by decide +kernel)) ggX0_passNight_X0_lastReach
theorem dX0_passNight_0 : decode cX0_passNight 0 = .ok (.aload_n 0, 1) := by decide +kernel
theorem dX0_passNight_1 : decode cX0_passNight 1 = .ok (.iconst 0, 1) := by decide +kernel
theorem dX0_passNight_2 : decode cX0_passNight 2 = .ok (.iconst 1, 1) := by decide +kernel
theorem dX0_passNight_3 : decode cX0_passNight 3 = .ok (.bipush 9, 2) := by decide +kernel
theorem dX0_passNight_5 : decode cX0_passNight 5 = .ok (.aload_n 0, 1) := by decide +kernel
theorem dX0_passNight_6 : decode cX0_passNight 6 = .ok (.iconst 0, 1) := by decide +kernel
theorem dX0_passNight_7 : decode cX0_passNight 7 = .ok (.invokevirtual 53, 3) := by decide +kernel
theorem dX0_passNight_10 : decode cX0_passNight 10 = .ok (.aload_n 0, 1) := by decide +kernel
theorem dX0_passNight_11 : decode cX0_passNight 11 = .ok (.getfield 46, 3) := by decide +kernel
theorem dX0_passNight_14 : decode cX0_passNight 14 = .ok (.iadd, 1) := by decide +kernel
theorem dX0_passNight_15 : decode cX0_passNight 15 = .ok (.invokestatic 65, 3) := by decide +kernel
theorem dX0_passNight_18 : decode cX0_passNight 18 = .ok (.invokevirtual 49, 3) := by decide +kernel
theorem dX0_passNight_21 : decode cX0_passNight 21 = .ok (.aload_n 0, 1) := by decide +kernel
theorem dX0_passNight_22 : decode cX0_passNight 22 = .ok (.aload_n 0, 1) := by decide +kernel
theorem dX0_passNight_23 : decode cX0_passNight 23 = .ok (.invokevirtual 29, 3) := by decide +kernel
theorem dX0_passNight_26 : decode cX0_passNight 26 = .ok (.iconst 1, 1) := by decide +kernel
theorem dX0_passNight_27 : decode cX0_passNight 27 = .ok (.iconst 0, 1) := by decide +kernel
theorem dX0_passNight_28 : decode cX0_passNight 28 = .ok (.aload_n 0, 1) := by decide +kernel
theorem dX0_passNight_29 : decode cX0_passNight 29 = .ok (.aload_n 0, 1) := by decide +kernel
theorem dX0_passNight_30 : decode cX0_passNight 30 = .ok (.invokevirtual 29, 3) := by decide +kernel
theorem dX0_passNight_33 : decode cX0_passNight 33 = .ok (.invokevirtual 53, 3) := by decide +kernel
theorem dX0_passNight_36 : decode cX0_passNight 36 = .ok (.iconst 1, 1) := by decide +kernel
theorem dX0_passNight_37 : decode cX0_passNight 37 = .ok (.isub, 1) := by decide +kernel
theorem dX0_passNight_38 : decode cX0_passNight 38 = .ok (.invokestatic 37, 3) := by decide +kernel
theorem dX0_passNight_41 : decode cX0_passNight 41 = .ok (.invokevirtual 49, 3) := by decide +kernel
theorem dX0_passNight_44 : decode cX0_passNight 44 = .ok (.return_, 1) := by decide +kernel
set_option maxRecDepth 20000 in
theorem ggX0_levelsTogether_X0_levelOf : GoodIn wsX0_levelsTogether wsX0_levelOf := goodIn_r _ [6, 7, 8, 9, 10, 5, 11, 1, 12, 13, 14, 15, 16] (by decide +kernel) (by decide +kernel)
set_option maxRecDepth 20000 in
theorem gX0_levelsTogether_X0_levelOf : GoodIn wsX0_levelsTogether (wsV RX0 53 RX0 yX0_levelOf wsX0_levelOf) := goodIn_app (goodIn_of _ (by decide +kernel)) ggX0_levelsTogether_X0_levelOf
theorem dX0_levelsTogether_0 : decode cX0_levelsTogether 0 = .ok (.iconst 0, 1) := by decide +kernel
theorem dX0_levelsTogether_1 : decode cX0_levelsTogether 1 = .ok (.istore_n 1, 1) := by decide +kernel
theorem dX0_levelsTogether_2 : decode cX0_levelsTogether 2 = .ok (.iconst 0, 1) := by decide +kernel
theorem dX0_levelsTogether_3 : decode cX0_levelsTogether 3 = .ok (.istore_n 2, 1) := by decide +kernel
theorem dX0_levelsTogether_4 : decode cX0_levelsTogether 4 = .ok (.iload_n 2, 1) := by decide +kernel
theorem dX0_levelsTogether_5 : decode cX0_levelsTogether 5 = .ok (.aload_n 0, 1) := by decide +kernel
theorem dX0_levelsTogether_6 : decode cX0_levelsTogether 6 = .ok (.getfield 21, 3) := by decide +kernel
theorem dX0_levelsTogether_9 : decode cX0_levelsTogether 9 = .ok (.if_icmp .ge 17, 3) := by decide +kernel
theorem dX0_levelsTogether_12 : decode cX0_levelsTogether 12 = .ok (.iload_n 1, 1) := by decide +kernel
theorem dX0_levelsTogether_13 : decode cX0_levelsTogether 13 = .ok (.aload_n 0, 1) := by decide +kernel
theorem dX0_levelsTogether_14 : decode cX0_levelsTogether 14 = .ok (.iload_n 2, 1) := by decide +kernel
theorem dX0_levelsTogether_15 : decode cX0_levelsTogether 15 = .ok (.invokevirtual 53, 3) := by decide +kernel
theorem dX0_levelsTogether_18 : decode cX0_levelsTogether 18 = .ok (.iadd, 1) := by decide +kernel
theorem dX0_levelsTogether_19 : decode cX0_levelsTogether 19 = .ok (.istore_n 1, 1) := by decide +kernel
theorem dX0_levelsTogether_20 : decode cX0_levelsTogether 20 = .ok (.iinc 2 1, 3) := by decide +kernel
theorem dX0_levelsTogether_23 : decode cX0_levelsTogether 23 = .ok (.goto (-19), 3) := by decide +kernel
theorem dX0_levelsTogether_26 : decode cX0_levelsTogether 26 = .ok (.iload_n 1, 1) := by decide +kernel
theorem dX0_levelsTogether_27 : decode cX0_levelsTogether 27 = .ok (.ireturn, 1) := by decide +kernel
theorem dX1_init_0 : decode cX1_init 0 = .ok (.aload_n 0, 1) := by decide +kernel
theorem dX1_init_1 : decode cX1_init 1 = .ok (.invokespecial 3, 3) := by decide +kernel
theorem dX1_init_4 : decode cX1_init 4 = .ok (.aload_n 0, 1) := by decide +kernel
theorem dX1_init_5 : decode cX1_init 5 = .ok (.bipush 8, 2) := by decide +kernel
theorem dX1_init_7 : decode cX1_init 7 = .ok (.newarray .int, 2) := by decide +kernel
theorem dX1_init_9 : decode cX1_init 9 = .ok (.putfield 9, 3) := by decide +kernel
theorem dX1_init_12 : decode cX1_init 12 = .ok (.aload_n 0, 1) := by decide +kernel
theorem dX1_init_13 : decode cX1_init 13 = .ok (.bipush 8, 2) := by decide +kernel
theorem dX1_init_15 : decode cX1_init 15 = .ok (.newarray .int, 2) := by decide +kernel
theorem dX1_init_17 : decode cX1_init 17 = .ok (.putfield 15, 3) := by decide +kernel
theorem dX1_init_20 : decode cX1_init 20 = .ok (.aload_n 0, 1) := by decide +kernel
theorem dX1_init_21 : decode cX1_init 21 = .ok (.bipush 8, 2) := by decide +kernel
theorem dX1_init_23 : decode cX1_init 23 = .ok (.newarray .boolean, 2) := by decide +kernel
theorem dX1_init_25 : decode cX1_init 25 = .ok (.putfield 18, 3) := by decide +kernel
theorem dX1_init_28 : decode cX1_init 28 = .ok (.return_, 1) := by decide +kernel
theorem dX1_note_0 : decode cX1_note 0 = .ok (.aload_n 0, 1) := by decide +kernel
theorem dX1_note_1 : decode cX1_note 1 = .ok (.getfield 22, 3) := by decide +kernel
theorem dX1_note_4 : decode cX1_note 4 = .ok (.ifCond .lt 12, 3) := by decide +kernel
theorem dX1_note_7 : decode cX1_note 7 = .ok (.aload_n 0, 1) := by decide +kernel
theorem dX1_note_8 : decode cX1_note 8 = .ok (.getfield 22, 3) := by decide +kernel
theorem dX1_note_11 : decode cX1_note 11 = .ok (.bipush 8, 2) := by decide +kernel
theorem dX1_note_13 : decode cX1_note 13 = .ok (.if_icmp .lt 5, 3) := by decide +kernel
theorem dX1_note_16 : decode cX1_note 16 = .ok (.iconst 0, 1) := by decide +kernel
theorem dX1_note_17 : decode cX1_note 17 = .ok (.ireturn, 1) := by decide +kernel
theorem dX1_note_18 : decode cX1_note 18 = .ok (.aload_n 0, 1) := by decide +kernel
theorem dX1_note_19 : decode cX1_note 19 = .ok (.getfield 9, 3) := by decide +kernel
theorem dX1_note_22 : decode cX1_note 22 = .ok (.aload_n 0, 1) := by decide +kernel
theorem dX1_note_23 : decode cX1_note 23 = .ok (.getfield 22, 3) := by decide +kernel
theorem dX1_note_26 : decode cX1_note 26 = .ok (.iload_n 1, 1) := by decide +kernel
theorem dX1_note_27 : decode cX1_note 27 = .ok (.iastore, 1) := by decide +kernel
theorem dX1_note_28 : decode cX1_note 28 = .ok (.aload_n 0, 1) := by decide +kernel
theorem dX1_note_29 : decode cX1_note 29 = .ok (.getfield 15, 3) := by decide +kernel
theorem dX1_note_32 : decode cX1_note 32 = .ok (.aload_n 0, 1) := by decide +kernel
theorem dX1_note_33 : decode cX1_note 33 = .ok (.getfield 22, 3) := by decide +kernel
theorem dX1_note_36 : decode cX1_note 36 = .ok (.iload_n 2, 1) := by decide +kernel
theorem dX1_note_37 : decode cX1_note 37 = .ok (.iastore, 1) := by decide +kernel
theorem dX1_note_38 : decode cX1_note 38 = .ok (.aload_n 0, 1) := by decide +kernel
theorem dX1_note_39 : decode cX1_note 39 = .ok (.getfield 18, 3) := by decide +kernel
theorem dX1_note_42 : decode cX1_note 42 = .ok (.aload_n 0, 1) := by decide +kernel
theorem dX1_note_43 : decode cX1_note 43 = .ok (.getfield 22, 3) := by decide +kernel
theorem dX1_note_46 : decode cX1_note 46 = .ok (.iload_n 3, 1) := by decide +kernel
theorem dX1_note_47 : decode cX1_note 47 = .ok (.bastore, 1) := by decide +kernel
theorem dX1_note_48 : decode cX1_note 48 = .ok (.aload_n 0, 1) := by decide +kernel
theorem dX1_note_49 : decode cX1_note 49 = .ok (.dup, 1) := by decide +kernel
theorem dX1_note_50 : decode cX1_note 50 = .ok (.getfield 22, 3) := by decide +kernel
theorem dX1_note_53 : decode cX1_note 53 = .ok (.iconst 1, 1) := by decide +kernel
theorem dX1_note_54 : decode cX1_note 54 = .ok (.iadd, 1) := by decide +kernel
theorem dX1_note_55 : decode cX1_note 55 = .ok (.putfield 22, 3) := by decide +kernel
theorem dX1_note_58 : decode cX1_note 58 = .ok (.iconst 1, 1) := by decide +kernel
theorem dX1_note_59 : decode cX1_note 59 = .ok (.ireturn, 1) := by decide +kernel
set_option maxRecDepth 20000 in
theorem ggX1_areSoIn_X0_levelOf : GoodIn wsX1_areSoIn wsX0_levelOf := goodIn_r _ [9, 10, 11, 12, 13, 8, 14, 15, 38, 39, 40, 41, 42] (by decide +kernel) (by decide +kernel)
set_option maxRecDepth 20000 in
theorem gX1_areSoIn_X0_levelOf : GoodIn wsX1_areSoIn (wsV RX1 26 RX0 yX0_levelOf wsX0_levelOf) := goodIn_app (goodIn_of _ (by decide +kernel)) ggX1_areSoIn_X0_levelOf
set_option maxRecDepth 20000 in
theorem ggX1_areSoIn_X0_wantOf : GoodIn wsX1_areSoIn wsX0_wantOf := goodIn_r _ [19, 20, 21, 22, 23, 24, 25, 26, 8, 27, 28, 11, 12, 13, 14, 15, 29, 30, 31, 32, 33, 38, 39, 40, 41, 42] (by decide +kernel) (by decide +kernel)
set_option maxRecDepth 20000 in
theorem gX1_areSoIn_X0_wantOf : GoodIn wsX1_areSoIn (wsV RX1 32 RX0 yX0_wantOf wsX0_wantOf) := goodIn_app (goodIn_of _ (by decide +kernel)) ggX1_areSoIn_X0_wantOf
theorem dX1_areSoIn_0 : decode cX1_areSoIn 0 = .ok (.iconst 0, 1) := by decide +kernel
theorem dX1_areSoIn_1 : decode cX1_areSoIn 1 = .ok (.istore_n 2, 1) := by decide +kernel
theorem dX1_areSoIn_2 : decode cX1_areSoIn 2 = .ok (.iload_n 2, 1) := by decide +kernel
theorem dX1_areSoIn_3 : decode cX1_areSoIn 3 = .ok (.aload_n 0, 1) := by decide +kernel
theorem dX1_areSoIn_4 : decode cX1_areSoIn 4 = .ok (.getfield 22, 3) := by decide +kernel
theorem dX1_areSoIn_7 : decode cX1_areSoIn 7 = .ok (.if_icmp .ge 76, 3) := by decide +kernel
theorem dX1_areSoIn_10 : decode cX1_areSoIn 10 = .ok (.iload_n 2, 1) := by decide +kernel
theorem dX1_areSoIn_11 : decode cX1_areSoIn 11 = .ok (.bipush 8, 2) := by decide +kernel
theorem dX1_areSoIn_13 : decode cX1_areSoIn 13 = .ok (.if_icmp .ge 70, 3) := by decide +kernel
theorem dX1_areSoIn_16 : decode cX1_areSoIn 16 = .ok (.aload_n 0, 1) := by decide +kernel
theorem dX1_areSoIn_17 : decode cX1_areSoIn 17 = .ok (.getfield 15, 3) := by decide +kernel
theorem dX1_areSoIn_20 : decode cX1_areSoIn 20 = .ok (.iload_n 2, 1) := by decide +kernel
theorem dX1_areSoIn_21 : decode cX1_areSoIn 21 = .ok (.iaload, 1) := by decide +kernel
theorem dX1_areSoIn_22 : decode cX1_areSoIn 22 = .ok (.bipush (-9), 2) := by decide +kernel
theorem dX1_areSoIn_24 : decode cX1_areSoIn 24 = .ok (.if_icmp .ne 16, 3) := by decide +kernel
theorem dX1_areSoIn_27 : decode cX1_areSoIn 27 = .ok (.aload_n 1, 1) := by decide +kernel
theorem dX1_areSoIn_28 : decode cX1_areSoIn 28 = .ok (.aload_n 0, 1) := by decide +kernel
theorem dX1_areSoIn_29 : decode cX1_areSoIn 29 = .ok (.getfield 9, 3) := by decide +kernel
theorem dX1_areSoIn_32 : decode cX1_areSoIn 32 = .ok (.iload_n 2, 1) := by decide +kernel
theorem dX1_areSoIn_33 : decode cX1_areSoIn 33 = .ok (.iaload, 1) := by decide +kernel
theorem dX1_areSoIn_34 : decode cX1_areSoIn 34 = .ok (.invokevirtual 26, 3) := by decide +kernel
theorem dX1_areSoIn_37 : decode cX1_areSoIn 37 = .ok (.goto 9, 3) := by decide +kernel
theorem dX1_areSoIn_40 : decode cX1_areSoIn 40 = .ok (.aload_n 0, 1) := by decide +kernel
theorem dX1_areSoIn_41 : decode cX1_areSoIn 41 = .ok (.getfield 15, 3) := by decide +kernel
theorem dX1_areSoIn_44 : decode cX1_areSoIn 44 = .ok (.iload_n 2, 1) := by decide +kernel
theorem dX1_areSoIn_45 : decode cX1_areSoIn 45 = .ok (.iaload, 1) := by decide +kernel
theorem dX1_areSoIn_46 : decode cX1_areSoIn 46 = .ok (.istore_n 3, 1) := by decide +kernel
theorem dX1_areSoIn_47 : decode cX1_areSoIn 47 = .ok (.iload_n 3, 1) := by decide +kernel
theorem dX1_areSoIn_48 : decode cX1_areSoIn 48 = .ok (.aload_n 1, 1) := by decide +kernel
theorem dX1_areSoIn_49 : decode cX1_areSoIn 49 = .ok (.aload_n 0, 1) := by decide +kernel
theorem dX1_areSoIn_50 : decode cX1_areSoIn 50 = .ok (.getfield 9, 3) := by decide +kernel
theorem dX1_areSoIn_53 : decode cX1_areSoIn 53 = .ok (.iload_n 2, 1) := by decide +kernel
theorem dX1_areSoIn_54 : decode cX1_areSoIn 54 = .ok (.iaload, 1) := by decide +kernel
theorem dX1_areSoIn_55 : decode cX1_areSoIn 55 = .ok (.invokevirtual 32, 3) := by decide +kernel
theorem dX1_areSoIn_58 : decode cX1_areSoIn 58 = .ok (.if_icmp .ge 7, 3) := by decide +kernel
theorem dX1_areSoIn_61 : decode cX1_areSoIn 61 = .ok (.iconst 1, 1) := by decide +kernel
theorem dX1_areSoIn_62 : decode cX1_areSoIn 62 = .ok (.goto 4, 3) := by decide +kernel
theorem dX1_areSoIn_65 : decode cX1_areSoIn 65 = .ok (.iconst 0, 1) := by decide +kernel
theorem dX1_areSoIn_66 : decode cX1_areSoIn 66 = .ok (.aload_n 0, 1) := by decide +kernel
theorem dX1_areSoIn_67 : decode cX1_areSoIn 67 = .ok (.getfield 18, 3) := by decide +kernel
theorem dX1_areSoIn_70 : decode cX1_areSoIn 70 = .ok (.iload_n 2, 1) := by decide +kernel
theorem dX1_areSoIn_71 : decode cX1_areSoIn 71 = .ok (.baload, 1) := by decide +kernel
theorem dX1_areSoIn_72 : decode cX1_areSoIn 72 = .ok (.if_icmp .eq 5, 3) := by decide +kernel
theorem dX1_areSoIn_75 : decode cX1_areSoIn 75 = .ok (.iconst 0, 1) := by decide +kernel
theorem dX1_areSoIn_76 : decode cX1_areSoIn 76 = .ok (.ireturn, 1) := by decide +kernel
theorem dX1_areSoIn_77 : decode cX1_areSoIn 77 = .ok (.iinc 2 1, 3) := by decide +kernel
theorem dX1_areSoIn_80 : decode cX1_areSoIn 80 = .ok (.goto (-78), 3) := by decide +kernel
theorem dX1_areSoIn_83 : decode cX1_areSoIn 83 = .ok (.iconst 1, 1) := by decide +kernel
theorem dX1_areSoIn_84 : decode cX1_areSoIn 84 = .ok (.ireturn, 1) := by decide +kernel
theorem dX2_init_0 : decode cX2_init 0 = .ok (.aload_n 0, 1) := by decide +kernel
theorem dX2_init_1 : decode cX2_init 1 = .ok (.invokespecial 5, 3) := by decide +kernel
theorem dX2_init_4 : decode cX2_init 4 = .ok (.aload_n 0, 1) := by decide +kernel
theorem dX2_init_5 : decode cX2_init 5 = .ok (.ldc 11, 2) := by decide +kernel
theorem dX2_init_7 : decode cX2_init 7 = .ok (.newarray .int, 2) := by decide +kernel
theorem dX2_init_9 : decode cX2_init 9 = .ok (.putfield 12, 3) := by decide +kernel
theorem dX2_init_12 : decode cX2_init 12 = .ok (.aload_n 0, 1) := by decide +kernel
theorem dX2_init_13 : decode cX2_init 13 = .ok (.ldc 11, 2) := by decide +kernel
theorem dX2_init_15 : decode cX2_init 15 = .ok (.newarray .int, 2) := by decide +kernel
theorem dX2_init_17 : decode cX2_init 17 = .ok (.putfield 16, 3) := by decide +kernel
theorem dX2_init_20 : decode cX2_init 20 = .ok (.aload_n 0, 1) := by decide +kernel
theorem dX2_init_21 : decode cX2_init 21 = .ok (.bipush 40, 2) := by decide +kernel
theorem dX2_init_23 : decode cX2_init 23 = .ok (.newarray .int, 2) := by decide +kernel
theorem dX2_init_25 : decode cX2_init 25 = .ok (.putfield 19, 3) := by decide +kernel
theorem dX2_init_28 : decode cX2_init 28 = .ok (.aload_n 0, 1) := by decide +kernel
theorem dX2_init_29 : decode cX2_init 29 = .ok (.bipush (-9), 2) := by decide +kernel
theorem dX2_init_31 : decode cX2_init 31 = .ok (.putfield 22, 3) := by decide +kernel
theorem dX2_init_34 : decode cX2_init 34 = .ok (.aload_n 0, 1) := by decide +kernel
theorem dX2_init_35 : decode cX2_init 35 = .ok (.ldc2_w 26, 3) := by decide +kernel
theorem dX2_init_38 : decode cX2_init 38 = .ok (.putfield 28, 3) := by decide +kernel
theorem dX2_init_41 : decode cX2_init 41 = .ok (.return_, 1) := by decide +kernel
theorem dX2_aimBoatAt_0 : decode cX2_aimBoatAt 0 = .ok (.aload_n 0, 1) := by decide +kernel
theorem dX2_aimBoatAt_1 : decode cX2_aimBoatAt 1 = .ok (.iconst 1, 1) := by decide +kernel
theorem dX2_aimBoatAt_2 : decode cX2_aimBoatAt 2 = .ok (.putfield 32, 3) := by decide +kernel
theorem dX2_aimBoatAt_5 : decode cX2_aimBoatAt 5 = .ok (.aload_n 0, 1) := by decide +kernel
theorem dX2_aimBoatAt_6 : decode cX2_aimBoatAt 6 = .ok (.iload_n 1, 1) := by decide +kernel
theorem dX2_aimBoatAt_7 : decode cX2_aimBoatAt 7 = .ok (.putfield 36, 3) := by decide +kernel
theorem dX2_aimBoatAt_10 : decode cX2_aimBoatAt 10 = .ok (.aload_n 0, 1) := by decide +kernel
theorem dX2_aimBoatAt_11 : decode cX2_aimBoatAt 11 = .ok (.iconst 0, 1) := by decide +kernel
theorem dX2_aimBoatAt_12 : decode cX2_aimBoatAt 12 = .ok (.putfield 39, 3) := by decide +kernel
theorem dX2_aimBoatAt_15 : decode cX2_aimBoatAt 15 = .ok (.return_, 1) := by decide +kernel
theorem dX2_aimAtLevel_0 : decode cX2_aimAtLevel 0 = .ok (.aload_n 0, 1) := by decide +kernel
theorem dX2_aimAtLevel_1 : decode cX2_aimAtLevel 1 = .ok (.iconst 0, 1) := by decide +kernel
theorem dX2_aimAtLevel_2 : decode cX2_aimAtLevel 2 = .ok (.putfield 32, 3) := by decide +kernel
theorem dX2_aimAtLevel_5 : decode cX2_aimAtLevel 5 = .ok (.aload_n 0, 1) := by decide +kernel
theorem dX2_aimAtLevel_6 : decode cX2_aimAtLevel 6 = .ok (.iload_n 1, 1) := by decide +kernel
theorem dX2_aimAtLevel_7 : decode cX2_aimAtLevel 7 = .ok (.putfield 36, 3) := by decide +kernel
theorem dX2_aimAtLevel_10 : decode cX2_aimAtLevel 10 = .ok (.aload_n 0, 1) := by decide +kernel
theorem dX2_aimAtLevel_11 : decode cX2_aimAtLevel 11 = .ok (.iload_n 2, 1) := by decide +kernel
theorem dX2_aimAtLevel_12 : decode cX2_aimAtLevel 12 = .ok (.putfield 39, 3) := by decide +kernel
theorem dX2_aimAtLevel_15 : decode cX2_aimAtLevel 15 = .ok (.return_, 1) := by decide +kernel
theorem dX2_actAt_0 : decode cX2_actAt 0 = .ok (.iload_n 1, 1) := by decide +kernel
theorem dX2_actAt_1 : decode cX2_actAt 1 = .ok (.iconst (-1), 1) := by decide +kernel
theorem dX2_actAt_2 : decode cX2_actAt 2 = .ok (.if_icmp .ne 8, 3) := by decide +kernel
theorem dX2_actAt_5 : decode cX2_actAt 5 = .ok (.aload_n 0, 1) := by decide +kernel
theorem dX2_actAt_6 : decode cX2_actAt 6 = .ok (.getfield 22, 3) := by decide +kernel
theorem dX2_actAt_9 : decode cX2_actAt 9 = .ok (.ireturn, 1) := by decide +kernel
theorem dX2_actAt_10 : decode cX2_actAt 10 = .ok (.iload_n 1, 1) := by decide +kernel
theorem dX2_actAt_11 : decode cX2_actAt 11 = .ok (.ifCond .lt 29, 3) := by decide +kernel
theorem dX2_actAt_14 : decode cX2_actAt 14 = .ok (.iload_n 1, 1) := by decide +kernel
theorem dX2_actAt_15 : decode cX2_actAt 15 = .ok (.aload_n 0, 1) := by decide +kernel
theorem dX2_actAt_16 : decode cX2_actAt 16 = .ok (.getfield 22, 3) := by decide +kernel
theorem dX2_actAt_19 : decode cX2_actAt 19 = .ok (.if_icmp .ge 21, 3) := by decide +kernel
theorem dX2_actAt_22 : decode cX2_actAt 22 = .ok (.iload_n 1, 1) := by decide +kernel
theorem dX2_actAt_23 : decode cX2_actAt 23 = .ok (.aload_n 0, 1) := by decide +kernel
theorem dX2_actAt_24 : decode cX2_actAt 24 = .ok (.getfield 19, 3) := by decide +kernel
theorem dX2_actAt_27 : decode cX2_actAt 27 = .ok (.arraylength, 1) := by decide +kernel
theorem dX2_actAt_28 : decode cX2_actAt 28 = .ok (.if_icmp .ge 12, 3) := by decide +kernel
theorem dX2_actAt_31 : decode cX2_actAt 31 = .ok (.aload_n 0, 1) := by decide +kernel
theorem dX2_actAt_32 : decode cX2_actAt 32 = .ok (.getfield 19, 3) := by decide +kernel
theorem dX2_actAt_35 : decode cX2_actAt 35 = .ok (.iload_n 1, 1) := by decide +kernel
theorem dX2_actAt_36 : decode cX2_actAt 36 = .ok (.iaload, 1) := by decide +kernel
theorem dX2_actAt_37 : decode cX2_actAt 37 = .ok (.goto 5, 3) := by decide +kernel
theorem dX2_actAt_40 : decode cX2_actAt 40 = .ok (.bipush (-9), 2) := by decide +kernel
theorem dX2_actAt_42 : decode cX2_actAt 42 = .ok (.ireturn, 1) := by decide +kernel
set_option maxRecDepth 20000 in
theorem ggX2_look_X0_lastReach : GoodIn wsX2_look wsX0_lastReach := goodIn_r _ [10, 11, 113, 114, 115, 116, 117] (by decide +kernel) (by decide +kernel)
set_option maxRecDepth 20000 in
theorem gX2_look_X0_lastReach : GoodIn wsX2_look (wsV RX2 42 RX0 yX0_lastReach wsX0_lastReach) := goodIn_app (goodIn_of _ (by decide +kernel)) ggX2_look_X0_lastReach
set_option maxRecDepth 20000 in
theorem ggX2_look_X0_levelOf : GoodIn wsX2_look wsX0_levelOf := goodIn_r _ [15, 16, 17, 18, 19, 9, 20, 11, 113, 114, 115, 116, 117] (by decide +kernel) (by decide +kernel)
set_option maxRecDepth 20000 in
theorem gX2_look_X0_levelOf : GoodIn wsX2_look (wsV RX2 57 RX0 yX0_levelOf wsX0_levelOf) := goodIn_app (goodIn_of _ (by decide +kernel)) ggX2_look_X0_levelOf
set_option maxRecDepth 20000 in
theorem ggX2_look_X2_weight : GoodIn wsX2_look wsX2_weight := goodIn_r _ [24] (by decide +kernel) (by decide +kernel)
set_option maxRecDepth 20000 in
theorem gX2_look_X2_weight : GoodIn wsX2_look (va_wsS RX2 61 yX2_weight wsX2_weight) := goodIn_app (goodIn_of _ (by decide +kernel)) ggX2_look_X2_weight
set_option maxRecDepth 20000 in
theorem ggX2_look_X0_wantOf : GoodIn wsX2_look wsX0_wantOf := goodIn_r _ [28, 29, 30, 31, 32, 33, 34, 35, 9, 36, 37, 17, 18, 19, 20, 11, 38, 39, 40, 41, 42, 113, 114, 115, 116, 117] (by decide +kernel) (by decide +kernel)
set_option maxRecDepth 20000 in
theorem gX2_look_X0_wantOf : GoodIn wsX2_look (wsV RX2 64 RX0 yX0_wantOf wsX0_wantOf) := goodIn_app (goodIn_of _ (by decide +kernel)) ggX2_look_X0_wantOf
set_option maxRecDepth 20000 in
theorem ggX2_look_X2_keyOf : GoodIn wsX2_look wsX2_keyOf := goodIn_r _ [46, 47, 4, 48, 3, 1, 49, 50, 51, 52, 53, 101, 102, 103, 104, 105, 106, 107, 108, 109, 110, 111, 112] (by decide +kernel) (by decide +kernel)
set_option maxRecDepth 20000 in
theorem gX2_look_X2_keyOf : GoodIn wsX2_look (wsV RX2 67 RX2 yX2_keyOf wsX2_keyOf) := goodIn_app (goodIn_of _ (by decide +kernel)) ggX2_look_X2_keyOf
set_option maxRecDepth 20000 in
theorem ggX2_look_X2_find : GoodIn wsX2_look wsX2_find := goodIn_r _ [57, 58, 59, 60, 61, 62, 63, 23, 64, 65, 66, 67, 68, 69, 70, 71, 72, 73, 50, 51, 53, 74, 75, 76, 77, 78, 79, 80, 81, 82, 83, 84, 1, 85, 86, 87, 88, 3, 89, 90, 31, 91, 21, 22, 24, 92, 93, 94, 95, 4, 96, 97, 98, 99, 100, 101, 102, 103, 104, 105, 106, 107, 108, 109, 110, 111, 112] (by decide +kernel) (by decide +kernel)
set_option maxRecDepth 20000 in
theorem gX2_look_X2_find : GoodIn wsX2_look (wsV RX2 71 RX2 yX2_find wsX2_find) := goodIn_app (goodIn_of _ (by decide +kernel)) ggX2_look_X2_find
theorem dX2_look_0 : decode cX2_look 0 = .ok (.iload_n 2, 1) := by decide +kernel
theorem dX2_look_1 : decode cX2_look 1 = .ok (.sipush 10000, 3) := by decide +kernel
theorem dX2_look_4 : decode cX2_look 4 = .ok (.imul, 1) := by decide +kernel
theorem dX2_look_5 : decode cX2_look 5 = .ok (.istore_n 3, 1) := by decide +kernel
theorem dX2_look_6 : decode cX2_look 6 = .ok (.aload_n 0, 1) := by decide +kernel
theorem dX2_look_7 : decode cX2_look 7 = .ok (.aload_n 1, 1) := by decide +kernel
theorem dX2_look_8 : decode cX2_look 8 = .ok (.invokevirtual 42, 3) := by decide +kernel
theorem dX2_look_11 : decode cX2_look 11 = .ok (.putfield 48, 3) := by decide +kernel
theorem dX2_look_14 : decode cX2_look 14 = .ok (.aload_n 0, 1) := by decide +kernel
theorem dX2_look_15 : decode cX2_look 15 = .ok (.aload_n 1, 1) := by decide +kernel
theorem dX2_look_16 : decode cX2_look 16 = .ok (.getfield 50, 3) := by decide +kernel
theorem dX2_look_19 : decode cX2_look 19 = .ok (.putfield 53, 3) := by decide +kernel
theorem dX2_look_22 : decode cX2_look 22 = .ok (.aload_n 0, 1) := by decide +kernel
theorem dX2_look_23 : decode cX2_look 23 = .ok (.iconst 0, 1) := by decide +kernel
theorem dX2_look_24 : decode cX2_look 24 = .ok (.putfield 54, 3) := by decide +kernel
theorem dX2_look_27 : decode cX2_look 27 = .ok (.iconst 0, 1) := by decide +kernel
theorem dX2_look_28 : decode cX2_look 28 = .ok (.istore 4, 2) := by decide +kernel
theorem dX2_look_30 : decode cX2_look 30 = .ok (.iload 4, 2) := by decide +kernel
theorem dX2_look_32 : decode cX2_look 32 = .ok (.aload_n 0, 1) := by decide +kernel
theorem dX2_look_33 : decode cX2_look 33 = .ok (.getfield 48, 3) := by decide +kernel
theorem dX2_look_36 : decode cX2_look 36 = .ok (.if_icmp .gt 45, 3) := by decide +kernel
theorem dX2_look_39 : decode cX2_look 39 = .ok (.iload_n 3, 1) := by decide +kernel
theorem dX2_look_40 : decode cX2_look 40 = .ok (.aload_n 1, 1) := by decide +kernel
theorem dX2_look_41 : decode cX2_look 41 = .ok (.iload 4, 2) := by decide +kernel
theorem dX2_look_43 : decode cX2_look 43 = .ok (.invokevirtual 57, 3) := by decide +kernel
theorem dX2_look_46 : decode cX2_look 46 = .ok (.iload 4, 2) := by decide +kernel
theorem dX2_look_48 : decode cX2_look 48 = .ok (.invokestatic 61, 3) := by decide +kernel
theorem dX2_look_51 : decode cX2_look 51 = .ok (.imul, 1) := by decide +kernel
theorem dX2_look_52 : decode cX2_look 52 = .ok (.iadd, 1) := by decide +kernel
theorem dX2_look_53 : decode cX2_look 53 = .ok (.istore_n 3, 1) := by decide +kernel
theorem dX2_look_54 : decode cX2_look 54 = .ok (.aload_n 0, 1) := by decide +kernel
theorem dX2_look_55 : decode cX2_look 55 = .ok (.dup, 1) := by decide +kernel
theorem dX2_look_56 : decode cX2_look 56 = .ok (.getfield 54, 3) := by decide +kernel
theorem dX2_look_59 : decode cX2_look 59 = .ok (.aload_n 1, 1) := by decide +kernel
theorem dX2_look_60 : decode cX2_look 60 = .ok (.iload 4, 2) := by decide +kernel
theorem dX2_look_62 : decode cX2_look 62 = .ok (.invokevirtual 64, 3) := by decide +kernel
theorem dX2_look_65 : decode cX2_look 65 = .ok (.iload 4, 2) := by decide +kernel
theorem dX2_look_67 : decode cX2_look 67 = .ok (.invokestatic 61, 3) := by decide +kernel
theorem dX2_look_70 : decode cX2_look 70 = .ok (.imul, 1) := by decide +kernel
theorem dX2_look_71 : decode cX2_look 71 = .ok (.iadd, 1) := by decide +kernel
theorem dX2_look_72 : decode cX2_look 72 = .ok (.putfield 54, 3) := by decide +kernel
theorem dX2_look_75 : decode cX2_look 75 = .ok (.iinc 4 1, 3) := by decide +kernel
theorem dX2_look_78 : decode cX2_look 78 = .ok (.goto (-48), 3) := by decide +kernel
theorem dX2_look_81 : decode cX2_look 81 = .ok (.aload_n 0, 1) := by decide +kernel
theorem dX2_look_82 : decode cX2_look 82 = .ok (.iload_n 3, 1) := by decide +kernel
theorem dX2_look_83 : decode cX2_look 83 = .ok (.invokevirtual 67, 3) := by decide +kernel
theorem dX2_look_86 : decode cX2_look 86 = .ok (.lstore 4, 2) := by decide +kernel
theorem dX2_look_88 : decode cX2_look 88 = .ok (.lload 4, 2) := by decide +kernel
theorem dX2_look_90 : decode cX2_look 90 = .ok (.aload_n 0, 1) := by decide +kernel
theorem dX2_look_91 : decode cX2_look 91 = .ok (.getfield 28, 3) := by decide +kernel
theorem dX2_look_94 : decode cX2_look 94 = .ok (.lcmp, 1) := by decide +kernel
theorem dX2_look_95 : decode cX2_look 95 = .ok (.ifCond .eq 14, 3) := by decide +kernel
theorem dX2_look_98 : decode cX2_look 98 = .ok (.aload_n 0, 1) := by decide +kernel
theorem dX2_look_99 : decode cX2_look 99 = .ok (.lload 4, 2) := by decide +kernel
theorem dX2_look_101 : decode cX2_look 101 = .ok (.putfield 28, 3) := by decide +kernel
theorem dX2_look_104 : decode cX2_look 104 = .ok (.aload_n 0, 1) := by decide +kernel
theorem dX2_look_105 : decode cX2_look 105 = .ok (.iload_n 3, 1) := by decide +kernel
theorem dX2_look_106 : decode cX2_look 106 = .ok (.invokevirtual 71, 3) := by decide +kernel
theorem dX2_look_109 : decode cX2_look 109 = .ok (.return_, 1) := by decide +kernel
theorem dX2_keyOf_0 : decode cX2_keyOf 0 = .ok (.iload_n 1, 1) := by decide +kernel
theorem dX2_keyOf_1 : decode cX2_keyOf 1 = .ok (.i2l, 1) := by decide +kernel
theorem dX2_keyOf_2 : decode cX2_keyOf 2 = .ok (.ldc2_w 75, 3) := by decide +kernel
theorem dX2_keyOf_5 : decode cX2_keyOf 5 = .ok (.lmul, 1) := by decide +kernel
theorem dX2_keyOf_6 : decode cX2_keyOf 6 = .ok (.aload_n 0, 1) := by decide +kernel
theorem dX2_keyOf_7 : decode cX2_keyOf 7 = .ok (.getfield 54, 3) := by decide +kernel
theorem dX2_keyOf_10 : decode cX2_keyOf 10 = .ok (.i2l, 1) := by decide +kernel
theorem dX2_keyOf_11 : decode cX2_keyOf 11 = .ok (.ladd, 1) := by decide +kernel
theorem dX2_keyOf_12 : decode cX2_keyOf 12 = .ok (.lstore_n 2, 1) := by decide +kernel
theorem dX2_keyOf_13 : decode cX2_keyOf 13 = .ok (.lload_n 2, 1) := by decide +kernel
theorem dX2_keyOf_14 : decode cX2_keyOf 14 = .ok (.ldc2_w 77, 3) := by decide +kernel
theorem dX2_keyOf_17 : decode cX2_keyOf 17 = .ok (.lmul, 1) := by decide +kernel
theorem dX2_keyOf_18 : decode cX2_keyOf 18 = .ok (.aload_n 0, 1) := by decide +kernel
theorem dX2_keyOf_19 : decode cX2_keyOf 19 = .ok (.getfield 53, 3) := by decide +kernel
theorem dX2_keyOf_22 : decode cX2_keyOf 22 = .ok (.i2l, 1) := by decide +kernel
theorem dX2_keyOf_23 : decode cX2_keyOf 23 = .ok (.ladd, 1) := by decide +kernel
theorem dX2_keyOf_24 : decode cX2_keyOf 24 = .ok (.ldc2_w 77, 3) := by decide +kernel
theorem dX2_keyOf_27 : decode cX2_keyOf 27 = .ok (.lmul, 1) := by decide +kernel
theorem dX2_keyOf_28 : decode cX2_keyOf 28 = .ok (.aload_n 0, 1) := by decide +kernel
theorem dX2_keyOf_29 : decode cX2_keyOf 29 = .ok (.getfield 48, 3) := by decide +kernel
theorem dX2_keyOf_32 : decode cX2_keyOf 32 = .ok (.i2l, 1) := by decide +kernel
theorem dX2_keyOf_33 : decode cX2_keyOf 33 = .ok (.ladd, 1) := by decide +kernel
theorem dX2_keyOf_34 : decode cX2_keyOf 34 = .ok (.lstore_n 2, 1) := by decide +kernel
theorem dX2_keyOf_35 : decode cX2_keyOf 35 = .ok (.lload_n 2, 1) := by decide +kernel
theorem dX2_keyOf_36 : decode cX2_keyOf 36 = .ok (.ldc2_w 79, 3) := by decide +kernel
theorem dX2_keyOf_39 : decode cX2_keyOf 39 = .ok (.lmul, 1) := by decide +kernel
theorem dX2_keyOf_40 : decode cX2_keyOf 40 = .ok (.aload_n 0, 1) := by decide +kernel
theorem dX2_keyOf_41 : decode cX2_keyOf 41 = .ok (.getfield 32, 3) := by decide +kernel
theorem dX2_keyOf_44 : decode cX2_keyOf 44 = .ok (.ifCond .eq 7, 3) := by decide +kernel
theorem dX2_keyOf_47 : decode cX2_keyOf 47 = .ok (.iconst 1, 1) := by decide +kernel
theorem dX2_keyOf_48 : decode cX2_keyOf 48 = .ok (.goto 4, 3) := by decide +kernel
theorem dX2_keyOf_51 : decode cX2_keyOf 51 = .ok (.iconst 0, 1) := by decide +kernel
theorem dX2_keyOf_52 : decode cX2_keyOf 52 = .ok (.i2l, 1) := by decide +kernel
theorem dX2_keyOf_53 : decode cX2_keyOf 53 = .ok (.ladd, 1) := by decide +kernel
theorem dX2_keyOf_54 : decode cX2_keyOf 54 = .ok (.ldc2_w 77, 3) := by decide +kernel
theorem dX2_keyOf_57 : decode cX2_keyOf 57 = .ok (.lmul, 1) := by decide +kernel
theorem dX2_keyOf_58 : decode cX2_keyOf 58 = .ok (.aload_n 0, 1) := by decide +kernel
theorem dX2_keyOf_59 : decode cX2_keyOf 59 = .ok (.getfield 36, 3) := by decide +kernel
theorem dX2_keyOf_62 : decode cX2_keyOf 62 = .ok (.i2l, 1) := by decide +kernel
theorem dX2_keyOf_63 : decode cX2_keyOf 63 = .ok (.ladd, 1) := by decide +kernel
theorem dX2_keyOf_64 : decode cX2_keyOf 64 = .ok (.lstore_n 2, 1) := by decide +kernel
theorem dX2_keyOf_65 : decode cX2_keyOf 65 = .ok (.lload_n 2, 1) := by decide +kernel
theorem dX2_keyOf_66 : decode cX2_keyOf 66 = .ok (.ldc2_w 81, 3) := by decide +kernel
theorem dX2_keyOf_69 : decode cX2_keyOf 69 = .ok (.lmul, 1) := by decide +kernel
theorem dX2_keyOf_70 : decode cX2_keyOf 70 = .ok (.aload_n 0, 1) := by decide +kernel
theorem dX2_keyOf_71 : decode cX2_keyOf 71 = .ok (.getfield 39, 3) := by decide +kernel
theorem dX2_keyOf_74 : decode cX2_keyOf 74 = .ok (.i2l, 1) := by decide +kernel
theorem dX2_keyOf_75 : decode cX2_keyOf 75 = .ok (.ladd, 1) := by decide +kernel
theorem dX2_keyOf_76 : decode cX2_keyOf 76 = .ok (.lreturn, 1) := by decide +kernel
set_option maxRecDepth 20000 in
theorem ggX2_find_X2_forgetStates : GoodIn wsX2_find wsX2_forgetStates := goodIn_r _ [8, 2, 3, 9, 10, 11, 12, 7, 13, 55, 56, 57, 58, 59, 60, 61, 62, 63, 64, 65, 66] (by decide +kernel) (by decide +kernel)
set_option maxRecDepth 20000 in
theorem gX2_find_X2_forgetStates : GoodIn wsX2_find (wsV RX2 83 RX2 yX2_forgetStates wsX2_forgetStates) := goodIn_app (goodIn_of _ (by decide +kernel)) ggX2_find_X2_forgetStates
set_option maxRecDepth 20000 in
theorem ggX2_find_X2_isGoal : GoodIn wsX2_find wsX2_isGoal := goodIn_r _ [17, 18, 19, 20, 21, 22, 7, 23, 55, 56, 57, 58, 59, 60, 61, 62, 63, 64, 65, 66] (by decide +kernel) (by decide +kernel)
set_option maxRecDepth 20000 in
theorem gX2_find_X2_isGoal : GoodIn wsX2_find (wsV RX2 86 RX2 yX2_isGoal wsX2_isGoal) := goodIn_app (goodIn_of _ (by decide +kernel)) ggX2_find_X2_isGoal
set_option maxRecDepth 20000 in
theorem ggX2_find_X2_comeTo : GoodIn wsX2_find wsX2_comeTo := goodIn_r _ [27, 9, 2, 3, 10, 11, 12, 7, 13, 55, 56, 57, 58, 59, 60, 61, 62, 63, 64, 65, 66] (by decide +kernel) (by decide +kernel)
set_option maxRecDepth 20000 in
theorem gX2_find_X2_comeTo : GoodIn wsX2_find (wsV RX2 90 RX2 yX2_comeTo wsX2_comeTo) := goodIn_app (goodIn_of _ (by decide +kernel)) ggX2_find_X2_comeTo
set_option maxRecDepth 20000 in
theorem ggX2_find_X2_goOnFrom : GoodIn wsX2_find wsX2_goOnFrom := goodIn_r _ [31, 32, 33, 34, 35, 7, 36, 37, 38, 39, 40, 41, 21, 22, 23, 42, 43, 44, 45, 46, 47, 48, 49, 24, 25, 26, 27, 9, 2, 3, 10, 11, 12, 13, 14, 15, 16, 17, 18, 19, 20, 55, 56, 57, 58, 59, 60, 61, 62, 63, 64, 65, 66] (by decide +kernel) (by decide +kernel)
set_option maxRecDepth 20000 in
theorem gX2_find_X2_goOnFrom : GoodIn wsX2_find (wsV RX2 97 RX2 yX2_goOnFrom wsX2_goOnFrom) := goodIn_app (goodIn_of _ (by decide +kernel)) ggX2_find_X2_goOnFrom
set_option maxRecDepth 20000 in
theorem ggX2_find_X2_keepRowTo : GoodIn wsX2_find wsX2_keepRowTo := goodIn_r _ [53, 1, 54, 38, 39, 40, 41, 9, 10, 11, 12, 7, 13, 55, 56, 57, 58, 59, 60, 61, 62, 63, 64, 65, 66] (by decide +kernel) (by decide +kernel)
set_option maxRecDepth 20000 in
theorem gX2_find_X2_keepRowTo : GoodIn wsX2_find (wsV RX2 100 RX2 yX2_keepRowTo wsX2_keepRowTo) := goodIn_app (goodIn_of _ (by decide +kernel)) ggX2_find_X2_keepRowTo
theorem dX2_find_0 : decode cX2_find 0 = .ok (.aload_n 0, 1) := by decide +kernel
theorem dX2_find_1 : decode cX2_find 1 = .ok (.invokevirtual 83, 3) := by decide +kernel
theorem dX2_find_4 : decode cX2_find 4 = .ok (.aload_n 0, 1) := by decide +kernel
theorem dX2_find_5 : decode cX2_find 5 = .ok (.bipush (-9), 2) := by decide +kernel
theorem dX2_find_7 : decode cX2_find 7 = .ok (.putfield 22, 3) := by decide +kernel
theorem dX2_find_10 : decode cX2_find 10 = .ok (.aload_n 0, 1) := by decide +kernel
theorem dX2_find_11 : decode cX2_find 11 = .ok (.iload_n 1, 1) := by decide +kernel
theorem dX2_find_12 : decode cX2_find 12 = .ok (.invokevirtual 86, 3) := by decide +kernel
theorem dX2_find_15 : decode cX2_find 15 = .ok (.ifCond .eq 9, 3) := by decide +kernel
theorem dX2_find_18 : decode cX2_find 18 = .ok (.aload_n 0, 1) := by decide +kernel
theorem dX2_find_19 : decode cX2_find 19 = .ok (.iconst 0, 1) := by decide +kernel
theorem dX2_find_20 : decode cX2_find 20 = .ok (.putfield 22, 3) := by decide +kernel
theorem dX2_find_23 : decode cX2_find 23 = .ok (.return_, 1) := by decide +kernel
theorem dX2_find_24 : decode cX2_find 24 = .ok (.aload_n 0, 1) := by decide +kernel
theorem dX2_find_25 : decode cX2_find 25 = .ok (.iload_n 1, 1) := by decide +kernel
theorem dX2_find_26 : decode cX2_find 26 = .ok (.iload_n 1, 1) := by decide +kernel
theorem dX2_find_27 : decode cX2_find 27 = .ok (.iconst 0, 1) := by decide +kernel
theorem dX2_find_28 : decode cX2_find 28 = .ok (.invokevirtual 90, 3) := by decide +kernel
theorem dX2_find_31 : decode cX2_find 31 = .ok (.pop, 1) := by decide +kernel
theorem dX2_find_32 : decode cX2_find 32 = .ok (.iconst 0, 1) := by decide +kernel
theorem dX2_find_33 : decode cX2_find 33 = .ok (.istore_n 2, 1) := by decide +kernel
theorem dX2_find_34 : decode cX2_find 34 = .ok (.iconst 1, 1) := by decide +kernel
theorem dX2_find_35 : decode cX2_find 35 = .ok (.istore_n 3, 1) := by decide +kernel
theorem dX2_find_36 : decode cX2_find 36 = .ok (.iload_n 3, 1) := by decide +kernel
theorem dX2_find_37 : decode cX2_find 37 = .ok (.bipush 40, 2) := by decide +kernel
theorem dX2_find_39 : decode cX2_find 39 = .ok (.if_icmp .gt 75, 3) := by decide +kernel
theorem dX2_find_42 : decode cX2_find 42 = .ok (.iload_n 2, 1) := by decide +kernel
theorem dX2_find_43 : decode cX2_find 43 = .ok (.aload_n 0, 1) := by decide +kernel
theorem dX2_find_44 : decode cX2_find 44 = .ok (.getfield 94, 3) := by decide +kernel
theorem dX2_find_47 : decode cX2_find 47 = .ok (.if_icmp .ge 67, 3) := by decide +kernel
theorem dX2_find_50 : decode cX2_find 50 = .ok (.aload_n 0, 1) := by decide +kernel
theorem dX2_find_51 : decode cX2_find 51 = .ok (.getfield 94, 3) := by decide +kernel
theorem dX2_find_54 : decode cX2_find 54 = .ok (.istore 4, 2) := by decide +kernel
theorem dX2_find_56 : decode cX2_find 56 = .ok (.iload_n 2, 1) := by decide +kernel
theorem dX2_find_57 : decode cX2_find 57 = .ok (.iload 4, 2) := by decide +kernel
theorem dX2_find_59 : decode cX2_find 59 = .ok (.if_icmp .ge 49, 3) := by decide +kernel
theorem dX2_find_62 : decode cX2_find 62 = .ok (.iload_n 2, 1) := by decide +kernel
theorem dX2_find_63 : decode cX2_find 63 = .ok (.aload_n 0, 1) := by decide +kernel
theorem dX2_find_64 : decode cX2_find 64 = .ok (.getfield 16, 3) := by decide +kernel
theorem dX2_find_67 : decode cX2_find 67 = .ok (.arraylength, 1) := by decide +kernel
theorem dX2_find_68 : decode cX2_find 68 = .ok (.if_icmp .ge 40, 3) := by decide +kernel
theorem dX2_find_71 : decode cX2_find 71 = .ok (.aload_n 0, 1) := by decide +kernel
theorem dX2_find_72 : decode cX2_find 72 = .ok (.aload_n 0, 1) := by decide +kernel
theorem dX2_find_73 : decode cX2_find 73 = .ok (.getfield 16, 3) := by decide +kernel
theorem dX2_find_76 : decode cX2_find 76 = .ok (.iload_n 2, 1) := by decide +kernel
theorem dX2_find_77 : decode cX2_find 77 = .ok (.iaload, 1) := by decide +kernel
theorem dX2_find_78 : decode cX2_find 78 = .ok (.invokevirtual 97, 3) := by decide +kernel
theorem dX2_find_81 : decode cX2_find 81 = .ok (.istore 5, 2) := by decide +kernel
theorem dX2_find_83 : decode cX2_find 83 = .ok (.iload 5, 2) := by decide +kernel
theorem dX2_find_85 : decode cX2_find 85 = .ok (.bipush (-9), 2) := by decide +kernel
theorem dX2_find_87 : decode cX2_find 87 = .ok (.if_icmp .eq 15, 3) := by decide +kernel
theorem dX2_find_90 : decode cX2_find 90 = .ok (.aload_n 0, 1) := by decide +kernel
theorem dX2_find_91 : decode cX2_find 91 = .ok (.iload_n 3, 1) := by decide +kernel
theorem dX2_find_92 : decode cX2_find 92 = .ok (.putfield 22, 3) := by decide +kernel
theorem dX2_find_95 : decode cX2_find 95 = .ok (.aload_n 0, 1) := by decide +kernel
theorem dX2_find_96 : decode cX2_find 96 = .ok (.iload 5, 2) := by decide +kernel
theorem dX2_find_98 : decode cX2_find 98 = .ok (.invokevirtual 100, 3) := by decide +kernel
theorem dX2_find_101 : decode cX2_find 101 = .ok (.return_, 1) := by decide +kernel
theorem dX2_find_102 : decode cX2_find 102 = .ok (.iinc 2 1, 3) := by decide +kernel
theorem dX2_find_105 : decode cX2_find 105 = .ok (.goto (-49), 3) := by decide +kernel
theorem dX2_find_108 : decode cX2_find 108 = .ok (.iinc 3 1, 3) := by decide +kernel
theorem dX2_find_111 : decode cX2_find 111 = .ok (.goto (-75), 3) := by decide +kernel
theorem dX2_find_114 : decode cX2_find 114 = .ok (.return_, 1) := by decide +kernel
set_option maxRecDepth 20000 in
theorem ggX2_forgetStates_X2_isState : GoodIn wsX2_forgetStates wsX2_isState := goodIn_r _ [8, 3, 9, 10, 11, 12, 13, 14, 15, 16, 17, 18, 19, 20] (by decide +kernel) (by decide +kernel)
set_option maxRecDepth 20000 in
theorem gX2_forgetStates_X2_isState : GoodIn wsX2_forgetStates (wsV RX2 103 RX2 yX2_isState wsX2_isState) := goodIn_app (goodIn_of _ (by decide +kernel)) ggX2_forgetStates_X2_isState
theorem dX2_forgetStates_0 : decode cX2_forgetStates 0 = .ok (.iconst 0, 1) := by decide +kernel
theorem dX2_forgetStates_1 : decode cX2_forgetStates 1 = .ok (.istore_n 1, 1) := by decide +kernel
theorem dX2_forgetStates_2 : decode cX2_forgetStates 2 = .ok (.iload_n 1, 1) := by decide +kernel
theorem dX2_forgetStates_3 : decode cX2_forgetStates 3 = .ok (.aload_n 0, 1) := by decide +kernel
theorem dX2_forgetStates_4 : decode cX2_forgetStates 4 = .ok (.getfield 94, 3) := by decide +kernel
theorem dX2_forgetStates_7 : decode cX2_forgetStates 7 = .ok (.if_icmp .ge 40, 3) := by decide +kernel
theorem dX2_forgetStates_10 : decode cX2_forgetStates 10 = .ok (.iload_n 1, 1) := by decide +kernel
theorem dX2_forgetStates_11 : decode cX2_forgetStates 11 = .ok (.aload_n 0, 1) := by decide +kernel
theorem dX2_forgetStates_12 : decode cX2_forgetStates 12 = .ok (.getfield 16, 3) := by decide +kernel
theorem dX2_forgetStates_15 : decode cX2_forgetStates 15 = .ok (.arraylength, 1) := by decide +kernel
theorem dX2_forgetStates_16 : decode cX2_forgetStates 16 = .ok (.if_icmp .ge 31, 3) := by decide +kernel
theorem dX2_forgetStates_19 : decode cX2_forgetStates 19 = .ok (.aload_n 0, 1) := by decide +kernel
theorem dX2_forgetStates_20 : decode cX2_forgetStates 20 = .ok (.getfield 16, 3) := by decide +kernel
theorem dX2_forgetStates_23 : decode cX2_forgetStates 23 = .ok (.iload_n 1, 1) := by decide +kernel
theorem dX2_forgetStates_24 : decode cX2_forgetStates 24 = .ok (.iaload, 1) := by decide +kernel
theorem dX2_forgetStates_25 : decode cX2_forgetStates 25 = .ok (.istore_n 2, 1) := by decide +kernel
theorem dX2_forgetStates_26 : decode cX2_forgetStates 26 = .ok (.aload_n 0, 1) := by decide +kernel
theorem dX2_forgetStates_27 : decode cX2_forgetStates 27 = .ok (.iload_n 2, 1) := by decide +kernel
theorem dX2_forgetStates_28 : decode cX2_forgetStates 28 = .ok (.invokevirtual 103, 3) := by decide +kernel
theorem dX2_forgetStates_31 : decode cX2_forgetStates 31 = .ok (.ifCond .eq 10, 3) := by decide +kernel
theorem dX2_forgetStates_34 : decode cX2_forgetStates 34 = .ok (.aload_n 0, 1) := by decide +kernel
theorem dX2_forgetStates_35 : decode cX2_forgetStates 35 = .ok (.getfield 12, 3) := by decide +kernel
theorem dX2_forgetStates_38 : decode cX2_forgetStates 38 = .ok (.iload_n 2, 1) := by decide +kernel
theorem dX2_forgetStates_39 : decode cX2_forgetStates 39 = .ok (.iconst 0, 1) := by decide +kernel
theorem dX2_forgetStates_40 : decode cX2_forgetStates 40 = .ok (.iastore, 1) := by decide +kernel
theorem dX2_forgetStates_41 : decode cX2_forgetStates 41 = .ok (.iinc 1 1, 3) := by decide +kernel
theorem dX2_forgetStates_44 : decode cX2_forgetStates 44 = .ok (.goto (-42), 3) := by decide +kernel
theorem dX2_forgetStates_47 : decode cX2_forgetStates 47 = .ok (.aload_n 0, 1) := by decide +kernel
theorem dX2_forgetStates_48 : decode cX2_forgetStates 48 = .ok (.iconst 0, 1) := by decide +kernel
theorem dX2_forgetStates_49 : decode cX2_forgetStates 49 = .ok (.putfield 94, 3) := by decide +kernel
theorem dX2_forgetStates_52 : decode cX2_forgetStates 52 = .ok (.return_, 1) := by decide +kernel
set_option maxRecDepth 20000 in
theorem ggX2_goOnFrom_X2_behindNight : GoodIn wsX2_goOnFrom wsX2_behindNight := goodIn_r _ [6, 7, 8, 9, 10, 11, 1, 12, 13, 5, 14, 15, 16, 17, 41, 42, 43, 44, 45, 46, 47, 48, 49, 50, 51, 52] (by decide +kernel) (by decide +kernel)
set_option maxRecDepth 20000 in
theorem gX2_goOnFrom_X2_behindNight : GoodIn wsX2_goOnFrom (wsV RX2 106 RX2 yX2_behindNight wsX2_behindNight) := goodIn_app (goodIn_of _ (by decide +kernel)) ggX2_goOnFrom_X2_behindNight
set_option maxRecDepth 20000 in
theorem ggX2_goOnFrom_X2_behindOpening : GoodIn wsX2_goOnFrom wsX2_behindOpening := goodIn_r _ [21, 22, 12, 13, 5, 14, 15, 16, 17, 41, 42, 43, 44, 45, 46, 47, 48, 49, 50, 51, 52] (by decide +kernel) (by decide +kernel)
set_option maxRecDepth 20000 in
theorem gX2_goOnFrom_X2_behindOpening : GoodIn wsX2_goOnFrom (wsV RX2 109 RX2 yX2_behindOpening wsX2_behindOpening) := goodIn_app (goodIn_of _ (by decide +kernel)) ggX2_goOnFrom_X2_behindOpening
set_option maxRecDepth 20000 in
theorem ggX2_goOnFrom_X2_comeTo : GoodIn wsX2_goOnFrom wsX2_comeTo := goodIn_r _ [26, 27, 28, 29, 30, 31, 32, 5, 33, 41, 42, 43, 44, 45, 46, 47, 48, 49, 50, 51, 52] (by decide +kernel) (by decide +kernel)
set_option maxRecDepth 20000 in
theorem gX2_goOnFrom_X2_comeTo : GoodIn wsX2_goOnFrom (wsV RX2 90 RX2 yX2_comeTo wsX2_comeTo) := goodIn_app (goodIn_of _ (by decide +kernel)) ggX2_goOnFrom_X2_comeTo
set_option maxRecDepth 20000 in
theorem ggX2_goOnFrom_X2_isGoal : GoodIn wsX2_goOnFrom wsX2_isGoal := goodIn_r _ [37, 38, 39, 40, 12, 13, 5, 14, 41, 42, 43, 44, 45, 46, 47, 48, 49, 50, 51, 52] (by decide +kernel) (by decide +kernel)
set_option maxRecDepth 20000 in
theorem gX2_goOnFrom_X2_isGoal : GoodIn wsX2_goOnFrom (wsV RX2 86 RX2 yX2_isGoal wsX2_isGoal) := goodIn_app (goodIn_of _ (by decide +kernel)) ggX2_goOnFrom_X2_isGoal
theorem dX2_goOnFrom_0 : decode cX2_goOnFrom 0 = .ok (.iconst 0, 1) := by decide +kernel
theorem dX2_goOnFrom_1 : decode cX2_goOnFrom 1 = .ok (.istore_n 2, 1) := by decide +kernel
theorem dX2_goOnFrom_2 : decode cX2_goOnFrom 2 = .ok (.iload_n 2, 1) := by decide +kernel
theorem dX2_goOnFrom_3 : decode cX2_goOnFrom 3 = .ok (.aload_n 0, 1) := by decide +kernel
theorem dX2_goOnFrom_4 : decode cX2_goOnFrom 4 = .ok (.getfield 48, 3) := by decide +kernel
theorem dX2_goOnFrom_7 : decode cX2_goOnFrom 7 = .ok (.if_icmp .gt 52, 3) := by decide +kernel
theorem dX2_goOnFrom_10 : decode cX2_goOnFrom 10 = .ok (.iload_n 2, 1) := by decide +kernel
theorem dX2_goOnFrom_11 : decode cX2_goOnFrom 11 = .ok (.aload_n 0, 1) := by decide +kernel
theorem dX2_goOnFrom_12 : decode cX2_goOnFrom 12 = .ok (.getfield 48, 3) := by decide +kernel
theorem dX2_goOnFrom_15 : decode cX2_goOnFrom 15 = .ok (.if_icmp .ne 11, 3) := by decide +kernel
theorem dX2_goOnFrom_18 : decode cX2_goOnFrom 18 = .ok (.aload_n 0, 1) := by decide +kernel
theorem dX2_goOnFrom_19 : decode cX2_goOnFrom 19 = .ok (.iload_n 1, 1) := by decide +kernel
theorem dX2_goOnFrom_20 : decode cX2_goOnFrom 20 = .ok (.invokevirtual 106, 3) := by decide +kernel
theorem dX2_goOnFrom_23 : decode cX2_goOnFrom 23 = .ok (.goto 9, 3) := by decide +kernel
theorem dX2_goOnFrom_26 : decode cX2_goOnFrom 26 = .ok (.aload_n 0, 1) := by decide +kernel
theorem dX2_goOnFrom_27 : decode cX2_goOnFrom 27 = .ok (.iload_n 1, 1) := by decide +kernel
theorem dX2_goOnFrom_28 : decode cX2_goOnFrom 28 = .ok (.iload_n 2, 1) := by decide +kernel
theorem dX2_goOnFrom_29 : decode cX2_goOnFrom 29 = .ok (.invokevirtual 109, 3) := by decide +kernel
theorem dX2_goOnFrom_32 : decode cX2_goOnFrom 32 = .ok (.istore_n 3, 1) := by decide +kernel
theorem dX2_goOnFrom_33 : decode cX2_goOnFrom 33 = .ok (.aload_n 0, 1) := by decide +kernel
theorem dX2_goOnFrom_34 : decode cX2_goOnFrom 34 = .ok (.iload_n 3, 1) := by decide +kernel
theorem dX2_goOnFrom_35 : decode cX2_goOnFrom 35 = .ok (.iload_n 1, 1) := by decide +kernel
theorem dX2_goOnFrom_36 : decode cX2_goOnFrom 36 = .ok (.iload_n 2, 1) := by decide +kernel
theorem dX2_goOnFrom_37 : decode cX2_goOnFrom 37 = .ok (.invokevirtual 90, 3) := by decide +kernel
theorem dX2_goOnFrom_40 : decode cX2_goOnFrom 40 = .ok (.ifCond .eq 13, 3) := by decide +kernel
theorem dX2_goOnFrom_43 : decode cX2_goOnFrom 43 = .ok (.aload_n 0, 1) := by decide +kernel
theorem dX2_goOnFrom_44 : decode cX2_goOnFrom 44 = .ok (.iload_n 3, 1) := by decide +kernel
theorem dX2_goOnFrom_45 : decode cX2_goOnFrom 45 = .ok (.invokevirtual 86, 3) := by decide +kernel
theorem dX2_goOnFrom_48 : decode cX2_goOnFrom 48 = .ok (.ifCond .eq 5, 3) := by decide +kernel
theorem dX2_goOnFrom_51 : decode cX2_goOnFrom 51 = .ok (.iload_n 3, 1) := by decide +kernel
theorem dX2_goOnFrom_52 : decode cX2_goOnFrom 52 = .ok (.ireturn, 1) := by decide +kernel
theorem dX2_goOnFrom_53 : decode cX2_goOnFrom 53 = .ok (.iinc 2 1, 3) := by decide +kernel
theorem dX2_goOnFrom_56 : decode cX2_goOnFrom 56 = .ok (.goto (-54), 3) := by decide +kernel
theorem dX2_goOnFrom_59 : decode cX2_goOnFrom 59 = .ok (.bipush (-9), 2) := by decide +kernel
theorem dX2_goOnFrom_61 : decode cX2_goOnFrom 61 = .ok (.ireturn, 1) := by decide +kernel
set_option maxRecDepth 20000 in
theorem ggX2_behindNight_X2_digit : GoodIn wsX2_behindNight wsX2_digit := goodIn_r _ [10] (by decide +kernel) (by decide +kernel)
set_option maxRecDepth 20000 in
theorem gX2_behindNight_X2_digit : GoodIn wsX2_behindNight (va_wsS RX2 113 yX2_digit wsX2_digit) := goodIn_app (goodIn_of _ (by decide +kernel)) ggX2_behindNight_X2_digit
set_option maxRecDepth 20000 in
theorem ggX2_behindNight_X2_weight : GoodIn wsX2_behindNight wsX2_weight := goodIn_r _ [13] (by decide +kernel) (by decide +kernel)
set_option maxRecDepth 20000 in
theorem gX2_behindNight_X2_weight : GoodIn wsX2_behindNight (va_wsS RX2 61 yX2_weight wsX2_weight) := goodIn_app (goodIn_of _ (by decide +kernel)) ggX2_behindNight_X2_weight
theorem dX2_behindNight_0 : decode cX2_behindNight 0 = .ok (.iload_n 1, 1) := by decide +kernel
theorem dX2_behindNight_1 : decode cX2_behindNight 1 = .ok (.iconst 0, 1) := by decide +kernel
theorem dX2_behindNight_2 : decode cX2_behindNight 2 = .ok (.invokestatic 113, 3) := by decide +kernel
theorem dX2_behindNight_5 : decode cX2_behindNight 5 = .ok (.istore_n 2, 1) := by decide +kernel
theorem dX2_behindNight_6 : decode cX2_behindNight 6 = .ok (.iload_n 1, 1) := by decide +kernel
theorem dX2_behindNight_7 : decode cX2_behindNight 7 = .ok (.bipush 9, 2) := by decide +kernel
theorem dX2_behindNight_9 : decode cX2_behindNight 9 = .ok (.iload_n 2, 1) := by decide +kernel
theorem dX2_behindNight_10 : decode cX2_behindNight 10 = .ok (.aload_n 0, 1) := by decide +kernel
theorem dX2_behindNight_11 : decode cX2_behindNight 11 = .ok (.getfield 53, 3) := by decide +kernel
theorem dX2_behindNight_14 : decode cX2_behindNight 14 = .ok (.iadd, 1) := by decide +kernel
theorem dX2_behindNight_15 : decode cX2_behindNight 15 = .ok (.invokestatic 116, 3) := by decide +kernel
theorem dX2_behindNight_18 : decode cX2_behindNight 18 = .ok (.iload_n 2, 1) := by decide +kernel
theorem dX2_behindNight_19 : decode cX2_behindNight 19 = .ok (.isub, 1) := by decide +kernel
theorem dX2_behindNight_20 : decode cX2_behindNight 20 = .ok (.iconst 0, 1) := by decide +kernel
theorem dX2_behindNight_21 : decode cX2_behindNight 21 = .ok (.invokestatic 61, 3) := by decide +kernel
theorem dX2_behindNight_24 : decode cX2_behindNight 24 = .ok (.imul, 1) := by decide +kernel
theorem dX2_behindNight_25 : decode cX2_behindNight 25 = .ok (.iadd, 1) := by decide +kernel
theorem dX2_behindNight_26 : decode cX2_behindNight 26 = .ok (.istore_n 3, 1) := by decide +kernel
theorem dX2_behindNight_27 : decode cX2_behindNight 27 = .ok (.iload_n 1, 1) := by decide +kernel
theorem dX2_behindNight_28 : decode cX2_behindNight 28 = .ok (.aload_n 0, 1) := by decide +kernel
theorem dX2_behindNight_29 : decode cX2_behindNight 29 = .ok (.getfield 48, 3) := by decide +kernel
theorem dX2_behindNight_32 : decode cX2_behindNight 32 = .ok (.invokestatic 113, 3) := by decide +kernel
theorem dX2_behindNight_35 : decode cX2_behindNight 35 = .ok (.ifCond .le 15, 3) := by decide +kernel
theorem dX2_behindNight_38 : decode cX2_behindNight 38 = .ok (.iload_n 3, 1) := by decide +kernel
theorem dX2_behindNight_39 : decode cX2_behindNight 39 = .ok (.aload_n 0, 1) := by decide +kernel
theorem dX2_behindNight_40 : decode cX2_behindNight 40 = .ok (.getfield 48, 3) := by decide +kernel
theorem dX2_behindNight_43 : decode cX2_behindNight 43 = .ok (.invokestatic 61, 3) := by decide +kernel
theorem dX2_behindNight_46 : decode cX2_behindNight 46 = .ok (.isub, 1) := by decide +kernel
theorem dX2_behindNight_47 : decode cX2_behindNight 47 = .ok (.goto 4, 3) := by decide +kernel
theorem dX2_behindNight_50 : decode cX2_behindNight 50 = .ok (.iload_n 3, 1) := by decide +kernel
theorem dX2_behindNight_51 : decode cX2_behindNight 51 = .ok (.ireturn, 1) := by decide +kernel
set_option maxRecDepth 20000 in
theorem ggX2_behindOpening_X2_digit : GoodIn wsX2_behindOpening wsX2_digit := goodIn_r _ [5] (by decide +kernel) (by decide +kernel)
set_option maxRecDepth 20000 in
theorem gX2_behindOpening_X2_digit : GoodIn wsX2_behindOpening (va_wsS RX2 113 yX2_digit wsX2_digit) := goodIn_app (goodIn_of _ (by decide +kernel)) ggX2_behindOpening_X2_digit
set_option maxRecDepth 20000 in
theorem ggX2_behindOpening_X2_weight : GoodIn wsX2_behindOpening wsX2_weight := goodIn_r _ [8] (by decide +kernel) (by decide +kernel)
set_option maxRecDepth 20000 in
theorem gX2_behindOpening_X2_weight : GoodIn wsX2_behindOpening (va_wsS RX2 61 yX2_weight wsX2_weight) := goodIn_app (goodIn_of _ (by decide +kernel)) ggX2_behindOpening_X2_weight
theorem dX2_behindOpening_0 : decode cX2_behindOpening 0 = .ok (.iload_n 1, 1) := by decide +kernel
theorem dX2_behindOpening_1 : decode cX2_behindOpening 1 = .ok (.iload_n 2, 1) := by decide +kernel
theorem dX2_behindOpening_2 : decode cX2_behindOpening 2 = .ok (.invokestatic 113, 3) := by decide +kernel
theorem dX2_behindOpening_5 : decode cX2_behindOpening 5 = .ok (.iconst 1, 1) := by decide +kernel
theorem dX2_behindOpening_6 : decode cX2_behindOpening 6 = .ok (.if_icmp .lt 23, 3) := by decide +kernel
theorem dX2_behindOpening_9 : decode cX2_behindOpening 9 = .ok (.iload_n 1, 1) := by decide +kernel
theorem dX2_behindOpening_10 : decode cX2_behindOpening 10 = .ok (.iload_n 2, 1) := by decide +kernel
theorem dX2_behindOpening_11 : decode cX2_behindOpening 11 = .ok (.iconst 1, 1) := by decide +kernel
theorem dX2_behindOpening_12 : decode cX2_behindOpening 12 = .ok (.iadd, 1) := by decide +kernel
theorem dX2_behindOpening_13 : decode cX2_behindOpening 13 = .ok (.invokestatic 113, 3) := by decide +kernel
theorem dX2_behindOpening_16 : decode cX2_behindOpening 16 = .ok (.aload_n 0, 1) := by decide +kernel
theorem dX2_behindOpening_17 : decode cX2_behindOpening 17 = .ok (.getfield 54, 3) := by decide +kernel
theorem dX2_behindOpening_20 : decode cX2_behindOpening 20 = .ok (.iload_n 2, 1) := by decide +kernel
theorem dX2_behindOpening_21 : decode cX2_behindOpening 21 = .ok (.iconst 1, 1) := by decide +kernel
theorem dX2_behindOpening_22 : decode cX2_behindOpening 22 = .ok (.iadd, 1) := by decide +kernel
theorem dX2_behindOpening_23 : decode cX2_behindOpening 23 = .ok (.invokestatic 113, 3) := by decide +kernel
theorem dX2_behindOpening_26 : decode cX2_behindOpening 26 = .ok (.if_icmp .lt 6, 3) := by decide +kernel
theorem dX2_behindOpening_29 : decode cX2_behindOpening 29 = .ok (.bipush (-9), 2) := by decide +kernel
theorem dX2_behindOpening_31 : decode cX2_behindOpening 31 = .ok (.ireturn, 1) := by decide +kernel
theorem dX2_behindOpening_32 : decode cX2_behindOpening 32 = .ok (.iload_n 1, 1) := by decide +kernel
theorem dX2_behindOpening_33 : decode cX2_behindOpening 33 = .ok (.iload_n 2, 1) := by decide +kernel
theorem dX2_behindOpening_34 : decode cX2_behindOpening 34 = .ok (.invokestatic 61, 3) := by decide +kernel
theorem dX2_behindOpening_37 : decode cX2_behindOpening 37 = .ok (.isub, 1) := by decide +kernel
theorem dX2_behindOpening_38 : decode cX2_behindOpening 38 = .ok (.iload_n 2, 1) := by decide +kernel
theorem dX2_behindOpening_39 : decode cX2_behindOpening 39 = .ok (.iconst 1, 1) := by decide +kernel
theorem dX2_behindOpening_40 : decode cX2_behindOpening 40 = .ok (.iadd, 1) := by decide +kernel
theorem dX2_behindOpening_41 : decode cX2_behindOpening 41 = .ok (.invokestatic 61, 3) := by decide +kernel
theorem dX2_behindOpening_44 : decode cX2_behindOpening 44 = .ok (.iadd, 1) := by decide +kernel
theorem dX2_behindOpening_45 : decode cX2_behindOpening 45 = .ok (.istore_n 3, 1) := by decide +kernel
theorem dX2_behindOpening_46 : decode cX2_behindOpening 46 = .ok (.iload_n 1, 1) := by decide +kernel
theorem dX2_behindOpening_47 : decode cX2_behindOpening 47 = .ok (.sipush 10000, 3) := by decide +kernel
theorem dX2_behindOpening_50 : decode cX2_behindOpening 50 = .ok (.idiv, 1) := by decide +kernel
theorem dX2_behindOpening_51 : decode cX2_behindOpening 51 = .ok (.iload_n 2, 1) := by decide +kernel
theorem dX2_behindOpening_52 : decode cX2_behindOpening 52 = .ok (.if_icmp .ne 11, 3) := by decide +kernel
theorem dX2_behindOpening_55 : decode cX2_behindOpening 55 = .ok (.iload_n 3, 1) := by decide +kernel
theorem dX2_behindOpening_56 : decode cX2_behindOpening 56 = .ok (.sipush 10000, 3) := by decide +kernel
theorem dX2_behindOpening_59 : decode cX2_behindOpening 59 = .ok (.iadd, 1) := by decide +kernel
theorem dX2_behindOpening_60 : decode cX2_behindOpening 60 = .ok (.goto 4, 3) := by decide +kernel
theorem dX2_behindOpening_63 : decode cX2_behindOpening 63 = .ok (.iload_n 3, 1) := by decide +kernel
theorem dX2_behindOpening_64 : decode cX2_behindOpening 64 = .ok (.ireturn, 1) := by decide +kernel
set_option maxRecDepth 20000 in
theorem ggX2_comeTo_X2_isState : GoodIn wsX2_comeTo wsX2_isState := goodIn_r _ [8, 1, 9, 10, 11, 12, 13, 14, 15, 16, 17, 18, 19, 20] (by decide +kernel) (by decide +kernel)
set_option maxRecDepth 20000 in
theorem gX2_comeTo_X2_isState : GoodIn wsX2_comeTo (wsV RX2 103 RX2 yX2_isState wsX2_isState) := goodIn_app (goodIn_of _ (by decide +kernel)) ggX2_comeTo_X2_isState
theorem dX2_comeTo_0 : decode cX2_comeTo 0 = .ok (.aload_n 0, 1) := by decide +kernel
theorem dX2_comeTo_1 : decode cX2_comeTo 1 = .ok (.iload_n 1, 1) := by decide +kernel
theorem dX2_comeTo_2 : decode cX2_comeTo 2 = .ok (.invokevirtual 103, 3) := by decide +kernel
theorem dX2_comeTo_5 : decode cX2_comeTo 5 = .ok (.ifCond .eq 31, 3) := by decide +kernel
theorem dX2_comeTo_8 : decode cX2_comeTo 8 = .ok (.aload_n 0, 1) := by decide +kernel
theorem dX2_comeTo_9 : decode cX2_comeTo 9 = .ok (.getfield 12, 3) := by decide +kernel
theorem dX2_comeTo_12 : decode cX2_comeTo 12 = .ok (.iload_n 1, 1) := by decide +kernel
theorem dX2_comeTo_13 : decode cX2_comeTo 13 = .ok (.iaload, 1) := by decide +kernel
theorem dX2_comeTo_14 : decode cX2_comeTo 14 = .ok (.ifCond .ne 22, 3) := by decide +kernel
theorem dX2_comeTo_17 : decode cX2_comeTo 17 = .ok (.aload_n 0, 1) := by decide +kernel
theorem dX2_comeTo_18 : decode cX2_comeTo 18 = .ok (.getfield 94, 3) := by decide +kernel
theorem dX2_comeTo_21 : decode cX2_comeTo 21 = .ok (.ifCond .lt 15, 3) := by decide +kernel
theorem dX2_comeTo_24 : decode cX2_comeTo 24 = .ok (.aload_n 0, 1) := by decide +kernel
theorem dX2_comeTo_25 : decode cX2_comeTo 25 = .ok (.getfield 94, 3) := by decide +kernel
theorem dX2_comeTo_28 : decode cX2_comeTo 28 = .ok (.aload_n 0, 1) := by decide +kernel
theorem dX2_comeTo_29 : decode cX2_comeTo 29 = .ok (.getfield 16, 3) := by decide +kernel
theorem dX2_comeTo_32 : decode cX2_comeTo 32 = .ok (.arraylength, 1) := by decide +kernel
theorem dX2_comeTo_33 : decode cX2_comeTo 33 = .ok (.if_icmp .lt 5, 3) := by decide +kernel
theorem dX2_comeTo_36 : decode cX2_comeTo 36 = .ok (.iconst 0, 1) := by decide +kernel
theorem dX2_comeTo_37 : decode cX2_comeTo 37 = .ok (.ireturn, 1) := by decide +kernel
theorem dX2_comeTo_38 : decode cX2_comeTo 38 = .ok (.aload_n 0, 1) := by decide +kernel
theorem dX2_comeTo_39 : decode cX2_comeTo 39 = .ok (.getfield 12, 3) := by decide +kernel
theorem dX2_comeTo_42 : decode cX2_comeTo 42 = .ok (.iload_n 1, 1) := by decide +kernel
theorem dX2_comeTo_43 : decode cX2_comeTo 43 = .ok (.iconst 1, 1) := by decide +kernel
theorem dX2_comeTo_44 : decode cX2_comeTo 44 = .ok (.iload_n 2, 1) := by decide +kernel
theorem dX2_comeTo_45 : decode cX2_comeTo 45 = .ok (.iconst 4, 1) := by decide +kernel
theorem dX2_comeTo_46 : decode cX2_comeTo 46 = .ok (.imul, 1) := by decide +kernel
theorem dX2_comeTo_47 : decode cX2_comeTo 47 = .ok (.iadd, 1) := by decide +kernel
theorem dX2_comeTo_48 : decode cX2_comeTo 48 = .ok (.iload_n 3, 1) := by decide +kernel
theorem dX2_comeTo_49 : decode cX2_comeTo 49 = .ok (.iadd, 1) := by decide +kernel
theorem dX2_comeTo_50 : decode cX2_comeTo 50 = .ok (.iastore, 1) := by decide +kernel
theorem dX2_comeTo_51 : decode cX2_comeTo 51 = .ok (.aload_n 0, 1) := by decide +kernel
theorem dX2_comeTo_52 : decode cX2_comeTo 52 = .ok (.getfield 16, 3) := by decide +kernel
theorem dX2_comeTo_55 : decode cX2_comeTo 55 = .ok (.aload_n 0, 1) := by decide +kernel
theorem dX2_comeTo_56 : decode cX2_comeTo 56 = .ok (.getfield 94, 3) := by decide +kernel
theorem dX2_comeTo_59 : decode cX2_comeTo 59 = .ok (.iload_n 1, 1) := by decide +kernel
theorem dX2_comeTo_60 : decode cX2_comeTo 60 = .ok (.iastore, 1) := by decide +kernel
theorem dX2_comeTo_61 : decode cX2_comeTo 61 = .ok (.aload_n 0, 1) := by decide +kernel
theorem dX2_comeTo_62 : decode cX2_comeTo 62 = .ok (.dup, 1) := by decide +kernel
theorem dX2_comeTo_63 : decode cX2_comeTo 63 = .ok (.getfield 94, 3) := by decide +kernel
theorem dX2_comeTo_66 : decode cX2_comeTo 66 = .ok (.iconst 1, 1) := by decide +kernel
theorem dX2_comeTo_67 : decode cX2_comeTo 67 = .ok (.iadd, 1) := by decide +kernel
theorem dX2_comeTo_68 : decode cX2_comeTo 68 = .ok (.putfield 94, 3) := by decide +kernel
theorem dX2_comeTo_71 : decode cX2_comeTo 71 = .ok (.iconst 1, 1) := by decide +kernel
theorem dX2_comeTo_72 : decode cX2_comeTo 72 = .ok (.ireturn, 1) := by decide +kernel
theorem dX2_isState_0 : decode cX2_isState 0 = .ok (.iload_n 1, 1) := by decide +kernel
theorem dX2_isState_1 : decode cX2_isState 1 = .ok (.ifCond .lt 16, 3) := by decide +kernel
theorem dX2_isState_4 : decode cX2_isState 4 = .ok (.iload_n 1, 1) := by decide +kernel
theorem dX2_isState_5 : decode cX2_isState 5 = .ok (.aload_n 0, 1) := by decide +kernel
theorem dX2_isState_6 : decode cX2_isState 6 = .ok (.getfield 12, 3) := by decide +kernel
theorem dX2_isState_9 : decode cX2_isState 9 = .ok (.arraylength, 1) := by decide +kernel
theorem dX2_isState_10 : decode cX2_isState 10 = .ok (.if_icmp .ge 7, 3) := by decide +kernel
theorem dX2_isState_13 : decode cX2_isState 13 = .ok (.iconst 1, 1) := by decide +kernel
theorem dX2_isState_14 : decode cX2_isState 14 = .ok (.goto 4, 3) := by decide +kernel
theorem dX2_isState_17 : decode cX2_isState 17 = .ok (.iconst 0, 1) := by decide +kernel
theorem dX2_isState_18 : decode cX2_isState 18 = .ok (.ireturn, 1) := by decide +kernel
set_option maxRecDepth 20000 in
theorem ggX2_isGoal_X2_digit : GoodIn wsX2_isGoal wsX2_digit := goodIn_r _ [7] (by decide +kernel) (by decide +kernel)
set_option maxRecDepth 20000 in
theorem gX2_isGoal_X2_digit : GoodIn wsX2_isGoal (va_wsS RX2 113 yX2_digit wsX2_digit) := goodIn_app (goodIn_of _ (by decide +kernel)) ggX2_isGoal_X2_digit
theorem dX2_isGoal_0 : decode cX2_isGoal 0 = .ok (.aload_n 0, 1) := by decide +kernel
theorem dX2_isGoal_1 : decode cX2_isGoal 1 = .ok (.getfield 32, 3) := by decide +kernel
theorem dX2_isGoal_4 : decode cX2_isGoal 4 = .ok (.ifCond .eq 23, 3) := by decide +kernel
theorem dX2_isGoal_7 : decode cX2_isGoal 7 = .ok (.iload_n 1, 1) := by decide +kernel
theorem dX2_isGoal_8 : decode cX2_isGoal 8 = .ok (.sipush 10000, 3) := by decide +kernel
theorem dX2_isGoal_11 : decode cX2_isGoal 11 = .ok (.idiv, 1) := by decide +kernel
theorem dX2_isGoal_12 : decode cX2_isGoal 12 = .ok (.aload_n 0, 1) := by decide +kernel
theorem dX2_isGoal_13 : decode cX2_isGoal 13 = .ok (.getfield 36, 3) := by decide +kernel
theorem dX2_isGoal_16 : decode cX2_isGoal 16 = .ok (.if_icmp .ne 7, 3) := by decide +kernel
theorem dX2_isGoal_19 : decode cX2_isGoal 19 = .ok (.iconst 1, 1) := by decide +kernel
theorem dX2_isGoal_20 : decode cX2_isGoal 20 = .ok (.goto 27, 3) := by decide +kernel
theorem dX2_isGoal_23 : decode cX2_isGoal 23 = .ok (.iconst 0, 1) := by decide +kernel
theorem dX2_isGoal_24 : decode cX2_isGoal 24 = .ok (.goto 23, 3) := by decide +kernel
theorem dX2_isGoal_27 : decode cX2_isGoal 27 = .ok (.iload_n 1, 1) := by decide +kernel
theorem dX2_isGoal_28 : decode cX2_isGoal 28 = .ok (.aload_n 0, 1) := by decide +kernel
theorem dX2_isGoal_29 : decode cX2_isGoal 29 = .ok (.getfield 36, 3) := by decide +kernel
theorem dX2_isGoal_32 : decode cX2_isGoal 32 = .ok (.invokestatic 113, 3) := by decide +kernel
theorem dX2_isGoal_35 : decode cX2_isGoal 35 = .ok (.aload_n 0, 1) := by decide +kernel
theorem dX2_isGoal_36 : decode cX2_isGoal 36 = .ok (.getfield 39, 3) := by decide +kernel
theorem dX2_isGoal_39 : decode cX2_isGoal 39 = .ok (.if_icmp .lt 7, 3) := by decide +kernel
theorem dX2_isGoal_42 : decode cX2_isGoal 42 = .ok (.iconst 1, 1) := by decide +kernel
theorem dX2_isGoal_43 : decode cX2_isGoal 43 = .ok (.goto 4, 3) := by decide +kernel
theorem dX2_isGoal_46 : decode cX2_isGoal 46 = .ok (.iconst 0, 1) := by decide +kernel
theorem dX2_isGoal_47 : decode cX2_isGoal 47 = .ok (.ireturn, 1) := by decide +kernel
set_option maxRecDepth 20000 in
theorem ggX2_keepRowTo_X2_isState : GoodIn wsX2_keepRowTo wsX2_isState := goodIn_r _ [12, 7, 13, 14, 15, 16, 17, 18, 19, 20, 21, 22, 23, 24] (by decide +kernel) (by decide +kernel)
set_option maxRecDepth 20000 in
theorem gX2_keepRowTo_X2_isState : GoodIn wsX2_keepRowTo (wsV RX2 103 RX2 yX2_isState wsX2_isState) := goodIn_app (goodIn_of _ (by decide +kernel)) ggX2_keepRowTo_X2_isState
theorem dX2_keepRowTo_0 : decode cX2_keepRowTo 0 = .ok (.iload_n 1, 1) := by decide +kernel
theorem dX2_keepRowTo_1 : decode cX2_keepRowTo 1 = .ok (.istore_n 2, 1) := by decide +kernel
theorem dX2_keepRowTo_2 : decode cX2_keepRowTo 2 = .ok (.aload_n 0, 1) := by decide +kernel
theorem dX2_keepRowTo_3 : decode cX2_keepRowTo 3 = .ok (.getfield 22, 3) := by decide +kernel
theorem dX2_keepRowTo_6 : decode cX2_keepRowTo 6 = .ok (.aload_n 0, 1) := by decide +kernel
theorem dX2_keepRowTo_7 : decode cX2_keepRowTo 7 = .ok (.getfield 19, 3) := by decide +kernel
theorem dX2_keepRowTo_10 : decode cX2_keepRowTo 10 = .ok (.arraylength, 1) := by decide +kernel
theorem dX2_keepRowTo_11 : decode cX2_keepRowTo 11 = .ok (.invokestatic 116, 3) := by decide +kernel
theorem dX2_keepRowTo_14 : decode cX2_keepRowTo 14 = .ok (.iconst 1, 1) := by decide +kernel
theorem dX2_keepRowTo_15 : decode cX2_keepRowTo 15 = .ok (.isub, 1) := by decide +kernel
theorem dX2_keepRowTo_16 : decode cX2_keepRowTo 16 = .ok (.istore_n 3, 1) := by decide +kernel
theorem dX2_keepRowTo_17 : decode cX2_keepRowTo 17 = .ok (.iload_n 3, 1) := by decide +kernel
theorem dX2_keepRowTo_18 : decode cX2_keepRowTo 18 = .ok (.ifCond .lt 42, 3) := by decide +kernel
theorem dX2_keepRowTo_21 : decode cX2_keepRowTo 21 = .ok (.aload_n 0, 1) := by decide +kernel
theorem dX2_keepRowTo_22 : decode cX2_keepRowTo 22 = .ok (.iload_n 2, 1) := by decide +kernel
theorem dX2_keepRowTo_23 : decode cX2_keepRowTo 23 = .ok (.invokevirtual 103, 3) := by decide +kernel
theorem dX2_keepRowTo_26 : decode cX2_keepRowTo 26 = .ok (.ifCond .eq 34, 3) := by decide +kernel
theorem dX2_keepRowTo_29 : decode cX2_keepRowTo 29 = .ok (.aload_n 0, 1) := by decide +kernel
theorem dX2_keepRowTo_30 : decode cX2_keepRowTo 30 = .ok (.getfield 12, 3) := by decide +kernel
theorem dX2_keepRowTo_33 : decode cX2_keepRowTo 33 = .ok (.iload_n 2, 1) := by decide +kernel
theorem dX2_keepRowTo_34 : decode cX2_keepRowTo 34 = .ok (.iaload, 1) := by decide +kernel
theorem dX2_keepRowTo_35 : decode cX2_keepRowTo 35 = .ok (.iconst 1, 1) := by decide +kernel
theorem dX2_keepRowTo_36 : decode cX2_keepRowTo 36 = .ok (.isub, 1) := by decide +kernel
theorem dX2_keepRowTo_37 : decode cX2_keepRowTo 37 = .ok (.istore 4, 2) := by decide +kernel
theorem dX2_keepRowTo_39 : decode cX2_keepRowTo 39 = .ok (.aload_n 0, 1) := by decide +kernel
theorem dX2_keepRowTo_40 : decode cX2_keepRowTo 40 = .ok (.getfield 19, 3) := by decide +kernel
theorem dX2_keepRowTo_43 : decode cX2_keepRowTo 43 = .ok (.iload_n 3, 1) := by decide +kernel
theorem dX2_keepRowTo_44 : decode cX2_keepRowTo 44 = .ok (.iload 4, 2) := by decide +kernel
theorem dX2_keepRowTo_46 : decode cX2_keepRowTo 46 = .ok (.iconst 4, 1) := by decide +kernel
theorem dX2_keepRowTo_47 : decode cX2_keepRowTo 47 = .ok (.irem, 1) := by decide +kernel
theorem dX2_keepRowTo_48 : decode cX2_keepRowTo 48 = .ok (.iastore, 1) := by decide +kernel
theorem dX2_keepRowTo_49 : decode cX2_keepRowTo 49 = .ok (.iload 4, 2) := by decide +kernel
theorem dX2_keepRowTo_51 : decode cX2_keepRowTo 51 = .ok (.iconst 4, 1) := by decide +kernel
theorem dX2_keepRowTo_52 : decode cX2_keepRowTo 52 = .ok (.idiv, 1) := by decide +kernel
theorem dX2_keepRowTo_53 : decode cX2_keepRowTo 53 = .ok (.istore_n 2, 1) := by decide +kernel
theorem dX2_keepRowTo_54 : decode cX2_keepRowTo 54 = .ok (.iinc 3 (-1), 3) := by decide +kernel
theorem dX2_keepRowTo_57 : decode cX2_keepRowTo 57 = .ok (.goto (-40), 3) := by decide +kernel
theorem dX2_keepRowTo_60 : decode cX2_keepRowTo 60 = .ok (.return_, 1) := by decide +kernel
theorem dX2_digit_0 : decode cX2_digit 0 = .ok (.iload_n 1, 1) := by decide +kernel
theorem dX2_digit_1 : decode cX2_digit 1 = .ok (.tableswitch 52 0 2 #[27, 36, 44], 27) := by decide +kernel
theorem dX2_digit_28 : decode cX2_digit 28 = .ok (.iload_n 0, 1) := by decide +kernel
theorem dX2_digit_29 : decode cX2_digit 29 = .ok (.sipush 1000, 3) := by decide +kernel
theorem dX2_digit_32 : decode cX2_digit 32 = .ok (.idiv, 1) := by decide +kernel
theorem dX2_digit_33 : decode cX2_digit 33 = .ok (.bipush 10, 2) := by decide +kernel
theorem dX2_digit_35 : decode cX2_digit 35 = .ok (.irem, 1) := by decide +kernel
theorem dX2_digit_36 : decode cX2_digit 36 = .ok (.ireturn, 1) := by decide +kernel
theorem dX2_digit_37 : decode cX2_digit 37 = .ok (.iload_n 0, 1) := by decide +kernel
theorem dX2_digit_38 : decode cX2_digit 38 = .ok (.bipush 100, 2) := by decide +kernel
theorem dX2_digit_40 : decode cX2_digit 40 = .ok (.idiv, 1) := by decide +kernel
theorem dX2_digit_41 : decode cX2_digit 41 = .ok (.bipush 10, 2) := by decide +kernel
theorem dX2_digit_43 : decode cX2_digit 43 = .ok (.irem, 1) := by decide +kernel
theorem dX2_digit_44 : decode cX2_digit 44 = .ok (.ireturn, 1) := by decide +kernel
theorem dX2_digit_45 : decode cX2_digit 45 = .ok (.iload_n 0, 1) := by decide +kernel
theorem dX2_digit_46 : decode cX2_digit 46 = .ok (.bipush 10, 2) := by decide +kernel
theorem dX2_digit_48 : decode cX2_digit 48 = .ok (.idiv, 1) := by decide +kernel
theorem dX2_digit_49 : decode cX2_digit 49 = .ok (.bipush 10, 2) := by decide +kernel
theorem dX2_digit_51 : decode cX2_digit 51 = .ok (.irem, 1) := by decide +kernel
theorem dX2_digit_52 : decode cX2_digit 52 = .ok (.ireturn, 1) := by decide +kernel
theorem dX2_digit_53 : decode cX2_digit 53 = .ok (.iload_n 0, 1) := by decide +kernel
theorem dX2_digit_54 : decode cX2_digit 54 = .ok (.bipush 10, 2) := by decide +kernel
theorem dX2_digit_56 : decode cX2_digit 56 = .ok (.irem, 1) := by decide +kernel
theorem dX2_digit_57 : decode cX2_digit 57 = .ok (.ireturn, 1) := by decide +kernel
theorem dX2_weight_0 : decode cX2_weight 0 = .ok (.iload_n 0, 1) := by decide +kernel
theorem dX2_weight_1 : decode cX2_weight 1 = .ok (.tableswitch 37 0 2 #[27, 31, 34], 27) := by decide +kernel
theorem dX2_weight_28 : decode cX2_weight 28 = .ok (.sipush 1000, 3) := by decide +kernel
theorem dX2_weight_31 : decode cX2_weight 31 = .ok (.ireturn, 1) := by decide +kernel
theorem dX2_weight_32 : decode cX2_weight 32 = .ok (.bipush 100, 2) := by decide +kernel
theorem dX2_weight_34 : decode cX2_weight 34 = .ok (.ireturn, 1) := by decide +kernel
theorem dX2_weight_35 : decode cX2_weight 35 = .ok (.bipush 10, 2) := by decide +kernel
theorem dX2_weight_37 : decode cX2_weight 37 = .ok (.ireturn, 1) := by decide +kernel
theorem dX2_weight_38 : decode cX2_weight 38 = .ok (.iconst 1, 1) := by decide +kernel
theorem dX2_weight_39 : decode cX2_weight 39 = .ok (.ireturn, 1) := by decide +kernel
theorem dX3_init_0 : decode cX3_init 0 = .ok (.aload_n 0, 1) := by decide +kernel
theorem dX3_init_1 : decode cX3_init 1 = .ok (.invokespecial 3, 3) := by decide +kernel
theorem dX3_init_4 : decode cX3_init 4 = .ok (.aload_n 0, 1) := by decide +kernel
theorem dX3_init_5 : decode cX3_init 5 = .ok (.bipush 60, 2) := by decide +kernel
theorem dX3_init_7 : decode cX3_init 7 = .ok (.newarray .int, 2) := by decide +kernel
theorem dX3_init_9 : decode cX3_init 9 = .ok (.putfield 9, 3) := by decide +kernel
theorem dX3_init_12 : decode cX3_init 12 = .ok (.return_, 1) := by decide +kernel
set_option maxRecDepth 20000 in
theorem ggX3_becomeNew_J7_fill_53178 : GoodIn wsX3_becomeNew wsJ7_fill_53178 := goodIn_r _ [8] (by decide +kernel) (by decide +kernel)
set_option maxRecDepth 20000 in
theorem gX3_becomeNew_J7_fill_53178 : GoodIn wsX3_becomeNew (va_wsS RX3 26 yJ7_fill_53178 wsJ7_fill_53178) := goodIn_app (goodIn_of _ (by decide +kernel)) ggX3_becomeNew_J7_fill_53178
theorem dX3_becomeNew_0 : decode cX3_becomeNew 0 = .ok (.aload_n 0, 1) := by decide +kernel
theorem dX3_becomeNew_1 : decode cX3_becomeNew 1 = .ok (.iconst 1, 1) := by decide +kernel
theorem dX3_becomeNew_2 : decode cX3_becomeNew 2 = .ok (.putfield 15, 3) := by decide +kernel
theorem dX3_becomeNew_5 : decode cX3_becomeNew 5 = .ok (.aload_n 0, 1) := by decide +kernel
theorem dX3_becomeNew_6 : decode cX3_becomeNew 6 = .ok (.iload_n 1, 1) := by decide +kernel
theorem dX3_becomeNew_7 : decode cX3_becomeNew 7 = .ok (.putfield 19, 3) := by decide +kernel
theorem dX3_becomeNew_10 : decode cX3_becomeNew 10 = .ok (.aload_n 0, 1) := by decide +kernel
theorem dX3_becomeNew_11 : decode cX3_becomeNew 11 = .ok (.iload_n 2, 1) := by decide +kernel
theorem dX3_becomeNew_12 : decode cX3_becomeNew 12 = .ok (.putfield 23, 3) := by decide +kernel
theorem dX3_becomeNew_15 : decode cX3_becomeNew 15 = .ok (.aload_n 0, 1) := by decide +kernel
theorem dX3_becomeNew_16 : decode cX3_becomeNew 16 = .ok (.getfield 9, 3) := by decide +kernel
theorem dX3_becomeNew_19 : decode cX3_becomeNew 19 = .ok (.iconst 0, 1) := by decide +kernel
theorem dX3_becomeNew_20 : decode cX3_becomeNew 20 = .ok (.invokestatic 26, 3) := by decide +kernel
theorem dX3_becomeNew_23 : decode cX3_becomeNew 23 = .ok (.return_, 1) := by decide +kernel
theorem dX3_hasCells_0 : decode cX3_hasCells 0 = .ok (.iload_n 1, 1) := by decide +kernel
theorem dX3_hasCells_1 : decode cX3_hasCells 1 = .ok (.ifCond .lt 41, 3) := by decide +kernel
theorem dX3_hasCells_4 : decode cX3_hasCells 4 = .ok (.iload_n 2, 1) := by decide +kernel
theorem dX3_hasCells_5 : decode cX3_hasCells 5 = .ok (.ifCond .lt 37, 3) := by decide +kernel
theorem dX3_hasCells_8 : decode cX3_hasCells 8 = .ok (.iload_n 1, 1) := by decide +kernel
theorem dX3_hasCells_9 : decode cX3_hasCells 9 = .ok (.aload_n 0, 1) := by decide +kernel
theorem dX3_hasCells_10 : decode cX3_hasCells 10 = .ok (.getfield 23, 3) := by decide +kernel
theorem dX3_hasCells_13 : decode cX3_hasCells 13 = .ok (.if_icmp .gt 29, 3) := by decide +kernel
theorem dX3_hasCells_16 : decode cX3_hasCells 16 = .ok (.iload_n 2, 1) := by decide +kernel
theorem dX3_hasCells_17 : decode cX3_hasCells 17 = .ok (.aload_n 0, 1) := by decide +kernel
theorem dX3_hasCells_18 : decode cX3_hasCells 18 = .ok (.getfield 23, 3) := by decide +kernel
theorem dX3_hasCells_21 : decode cX3_hasCells 21 = .ok (.iload_n 1, 1) := by decide +kernel
theorem dX3_hasCells_22 : decode cX3_hasCells 22 = .ok (.isub, 1) := by decide +kernel
theorem dX3_hasCells_23 : decode cX3_hasCells 23 = .ok (.if_icmp .gt 19, 3) := by decide +kernel
theorem dX3_hasCells_26 : decode cX3_hasCells 26 = .ok (.aload_n 0, 1) := by decide +kernel
theorem dX3_hasCells_27 : decode cX3_hasCells 27 = .ok (.getfield 23, 3) := by decide +kernel
theorem dX3_hasCells_30 : decode cX3_hasCells 30 = .ok (.aload_n 0, 1) := by decide +kernel
theorem dX3_hasCells_31 : decode cX3_hasCells 31 = .ok (.getfield 9, 3) := by decide +kernel
theorem dX3_hasCells_34 : decode cX3_hasCells 34 = .ok (.arraylength, 1) := by decide +kernel
theorem dX3_hasCells_35 : decode cX3_hasCells 35 = .ok (.if_icmp .gt 7, 3) := by decide +kernel
theorem dX3_hasCells_38 : decode cX3_hasCells 38 = .ok (.iconst 1, 1) := by decide +kernel
theorem dX3_hasCells_39 : decode cX3_hasCells 39 = .ok (.goto 4, 3) := by decide +kernel
theorem dX3_hasCells_42 : decode cX3_hasCells 42 = .ok (.iconst 0, 1) := by decide +kernel
theorem dX3_hasCells_43 : decode cX3_hasCells 43 = .ok (.ireturn, 1) := by decide +kernel
set_option maxRecDepth 20000 in
theorem ggX3_faultOf_X3_hasCells : GoodIn wsX3_faultOf wsX3_hasCells := goodIn_r _ [7, 8, 9, 10, 11, 12, 13] (by decide +kernel) (by decide +kernel)
set_option maxRecDepth 20000 in
theorem gX3_faultOf_X3_hasCells : GoodIn wsX3_faultOf (wsV RX3 32 RX3 yX3_hasCells wsX3_hasCells) := goodIn_app (goodIn_of _ (by decide +kernel)) ggX3_faultOf_X3_hasCells
theorem dX3_faultOf_0 : decode cX3_faultOf 0 = .ok (.aload_n 0, 1) := by decide +kernel
theorem dX3_faultOf_1 : decode cX3_faultOf 1 = .ok (.getfield 15, 3) := by decide +kernel
theorem dX3_faultOf_4 : decode cX3_faultOf 4 = .ok (.ifCond .ne 5, 3) := by decide +kernel
theorem dX3_faultOf_7 : decode cX3_faultOf 7 = .ok (.iconst 1, 1) := by decide +kernel
theorem dX3_faultOf_8 : decode cX3_faultOf 8 = .ok (.ireturn, 1) := by decide +kernel
theorem dX3_faultOf_9 : decode cX3_faultOf 9 = .ok (.aload_n 0, 1) := by decide +kernel
theorem dX3_faultOf_10 : decode cX3_faultOf 10 = .ok (.getfield 19, 3) := by decide +kernel
theorem dX3_faultOf_13 : decode cX3_faultOf 13 = .ok (.iload_n 1, 1) := by decide +kernel
theorem dX3_faultOf_14 : decode cX3_faultOf 14 = .ok (.if_icmp .eq 5, 3) := by decide +kernel
theorem dX3_faultOf_17 : decode cX3_faultOf 17 = .ok (.iconst 2, 1) := by decide +kernel
theorem dX3_faultOf_18 : decode cX3_faultOf 18 = .ok (.ireturn, 1) := by decide +kernel
theorem dX3_faultOf_19 : decode cX3_faultOf 19 = .ok (.iload_n 3, 1) := by decide +kernel
theorem dX3_faultOf_20 : decode cX3_faultOf 20 = .ok (.ifCond .ge 5, 3) := by decide +kernel
theorem dX3_faultOf_23 : decode cX3_faultOf 23 = .ok (.iconst 4, 1) := by decide +kernel
theorem dX3_faultOf_24 : decode cX3_faultOf 24 = .ok (.ireturn, 1) := by decide +kernel
theorem dX3_faultOf_25 : decode cX3_faultOf 25 = .ok (.aload_n 0, 1) := by decide +kernel
theorem dX3_faultOf_26 : decode cX3_faultOf 26 = .ok (.iload_n 2, 1) := by decide +kernel
theorem dX3_faultOf_27 : decode cX3_faultOf 27 = .ok (.iload_n 3, 1) := by decide +kernel
theorem dX3_faultOf_28 : decode cX3_faultOf 28 = .ok (.invokevirtual 32, 3) := by decide +kernel
theorem dX3_faultOf_31 : decode cX3_faultOf 31 = .ok (.ifCond .eq 7, 3) := by decide +kernel
theorem dX3_faultOf_34 : decode cX3_faultOf 34 = .ok (.iconst 0, 1) := by decide +kernel
theorem dX3_faultOf_35 : decode cX3_faultOf 35 = .ok (.goto 4, 3) := by decide +kernel
theorem dX3_faultOf_38 : decode cX3_faultOf 38 = .ok (.iconst 3, 1) := by decide +kernel
theorem dX3_faultOf_39 : decode cX3_faultOf 39 = .ok (.ireturn, 1) := by decide +kernel
theorem dX3_cellAt_0 : decode cX3_cellAt 0 = .ok (.iload_n 1, 1) := by decide +kernel
theorem dX3_cellAt_1 : decode cX3_cellAt 1 = .ok (.ifCond .lt 29, 3) := by decide +kernel
theorem dX3_cellAt_4 : decode cX3_cellAt 4 = .ok (.iload_n 1, 1) := by decide +kernel
theorem dX3_cellAt_5 : decode cX3_cellAt 5 = .ok (.aload_n 0, 1) := by decide +kernel
theorem dX3_cellAt_6 : decode cX3_cellAt 6 = .ok (.getfield 23, 3) := by decide +kernel
theorem dX3_cellAt_9 : decode cX3_cellAt 9 = .ok (.if_icmp .ge 21, 3) := by decide +kernel
theorem dX3_cellAt_12 : decode cX3_cellAt 12 = .ok (.iload_n 1, 1) := by decide +kernel
theorem dX3_cellAt_13 : decode cX3_cellAt 13 = .ok (.aload_n 0, 1) := by decide +kernel
theorem dX3_cellAt_14 : decode cX3_cellAt 14 = .ok (.getfield 9, 3) := by decide +kernel
theorem dX3_cellAt_17 : decode cX3_cellAt 17 = .ok (.arraylength, 1) := by decide +kernel
theorem dX3_cellAt_18 : decode cX3_cellAt 18 = .ok (.if_icmp .ge 12, 3) := by decide +kernel
theorem dX3_cellAt_21 : decode cX3_cellAt 21 = .ok (.aload_n 0, 1) := by decide +kernel
theorem dX3_cellAt_22 : decode cX3_cellAt 22 = .ok (.getfield 9, 3) := by decide +kernel
theorem dX3_cellAt_25 : decode cX3_cellAt 25 = .ok (.iload_n 1, 1) := by decide +kernel
theorem dX3_cellAt_26 : decode cX3_cellAt 26 = .ok (.iaload, 1) := by decide +kernel
theorem dX3_cellAt_27 : decode cX3_cellAt 27 = .ok (.goto 4, 3) := by decide +kernel
theorem dX3_cellAt_30 : decode cX3_cellAt 30 = .ok (.iconst 0, 1) := by decide +kernel
theorem dX3_cellAt_31 : decode cX3_cellAt 31 = .ok (.ireturn, 1) := by decide +kernel
set_option maxRecDepth 20000 in
theorem ggX3_setCell_X3_cutToLane : GoodIn wsX3_setCell wsX3_cutToLane := goodIn_r _ [7, 8, 9, 10, 11, 12] (by decide +kernel) (by decide +kernel)
set_option maxRecDepth 20000 in
theorem gX3_setCell_X3_cutToLane : GoodIn wsX3_setCell (wsV RX3 36 RX3 yX3_cutToLane wsX3_cutToLane) := goodIn_app (goodIn_of _ (by decide +kernel)) ggX3_setCell_X3_cutToLane
theorem dX3_setCell_0 : decode cX3_setCell 0 = .ok (.iload_n 1, 1) := by decide +kernel
theorem dX3_setCell_1 : decode cX3_setCell 1 = .ok (.ifCond .lt 31, 3) := by decide +kernel
theorem dX3_setCell_4 : decode cX3_setCell 4 = .ok (.iload_n 1, 1) := by decide +kernel
theorem dX3_setCell_5 : decode cX3_setCell 5 = .ok (.aload_n 0, 1) := by decide +kernel
theorem dX3_setCell_6 : decode cX3_setCell 6 = .ok (.getfield 23, 3) := by decide +kernel
theorem dX3_setCell_9 : decode cX3_setCell 9 = .ok (.if_icmp .ge 23, 3) := by decide +kernel
theorem dX3_setCell_12 : decode cX3_setCell 12 = .ok (.iload_n 1, 1) := by decide +kernel
theorem dX3_setCell_13 : decode cX3_setCell 13 = .ok (.aload_n 0, 1) := by decide +kernel
theorem dX3_setCell_14 : decode cX3_setCell 14 = .ok (.getfield 9, 3) := by decide +kernel
theorem dX3_setCell_17 : decode cX3_setCell 17 = .ok (.arraylength, 1) := by decide +kernel
theorem dX3_setCell_18 : decode cX3_setCell 18 = .ok (.if_icmp .ge 14, 3) := by decide +kernel
theorem dX3_setCell_21 : decode cX3_setCell 21 = .ok (.aload_n 0, 1) := by decide +kernel
theorem dX3_setCell_22 : decode cX3_setCell 22 = .ok (.getfield 9, 3) := by decide +kernel
theorem dX3_setCell_25 : decode cX3_setCell 25 = .ok (.iload_n 1, 1) := by decide +kernel
theorem dX3_setCell_26 : decode cX3_setCell 26 = .ok (.aload_n 0, 1) := by decide +kernel
theorem dX3_setCell_27 : decode cX3_setCell 27 = .ok (.iload_n 2, 1) := by decide +kernel
theorem dX3_setCell_28 : decode cX3_setCell 28 = .ok (.invokevirtual 36, 3) := by decide +kernel
theorem dX3_setCell_31 : decode cX3_setCell 31 = .ok (.iastore, 1) := by decide +kernel
theorem dX3_setCell_32 : decode cX3_setCell 32 = .ok (.return_, 1) := by decide +kernel
theorem dX3_cutToLane_0 : decode cX3_cutToLane 0 = .ok (.aload_n 0, 1) := by decide +kernel
theorem dX3_cutToLane_1 : decode cX3_cutToLane 1 = .ok (.getfield 19, 3) := by decide +kernel
theorem dX3_cutToLane_4 : decode cX3_cutToLane 4 = .ok (.lookupswitch 34 #[(0, 28), (1, 31)], 28) := by decide +kernel
theorem dX3_cutToLane_32 : decode cX3_cutToLane 32 = .ok (.iload_n 1, 1) := by decide +kernel
theorem dX3_cutToLane_33 : decode cX3_cutToLane 33 = .ok (.i2b, 1) := by decide +kernel
theorem dX3_cutToLane_34 : decode cX3_cutToLane 34 = .ok (.ireturn, 1) := by decide +kernel
theorem dX3_cutToLane_35 : decode cX3_cutToLane 35 = .ok (.iload_n 1, 1) := by decide +kernel
theorem dX3_cutToLane_36 : decode cX3_cutToLane 36 = .ok (.i2s, 1) := by decide +kernel
theorem dX3_cutToLane_37 : decode cX3_cutToLane 37 = .ok (.ireturn, 1) := by decide +kernel
theorem dX3_cutToLane_38 : decode cX3_cutToLane 38 = .ok (.iload_n 1, 1) := by decide +kernel
theorem dX3_cutToLane_39 : decode cX3_cutToLane 39 = .ok (.ireturn, 1) := by decide +kernel
set_option maxRecDepth 20000 in
theorem ggX4_firstFault_X3_cellAt : GoodIn wsX4_firstFault wsX3_cellAt := goodIn_r _ [9, 10, 11, 16, 17, 18, 19] (by decide +kernel) (by decide +kernel)
set_option maxRecDepth 20000 in
theorem gX4_firstFault_X3_cellAt : GoodIn wsX4_firstFault (wsV RX4 17 RX3 yX3_cellAt wsX3_cellAt) := goodIn_app (goodIn_of _ (by decide +kernel)) ggX4_firstFault_X3_cellAt
set_option maxRecDepth 20000 in
theorem ggX4_firstFault_X4_goesOn : GoodIn wsX4_firstFault wsX4_goesOn := goodIn_r _ [15] (by decide +kernel) (by decide +kernel)
set_option maxRecDepth 20000 in
theorem gX4_firstFault_X4_goesOn : GoodIn wsX4_firstFault (va_wsS RX4 23 yX4_goesOn wsX4_goesOn) := goodIn_app (goodIn_of _ (by decide +kernel)) ggX4_firstFault_X4_goesOn
theorem dX4_firstFault_0 : decode cX4_firstFault 0 = .ok (.iload_n 2, 1) := by decide +kernel
theorem dX4_firstFault_1 : decode cX4_firstFault 1 = .ok (.bipush 18, 2) := by decide +kernel
theorem dX4_firstFault_3 : decode cX4_firstFault 3 = .ok (.invokestatic 11, 3) := by decide +kernel
theorem dX4_firstFault_6 : decode cX4_firstFault 6 = .ok (.istore_n 3, 1) := by decide +kernel
theorem dX4_firstFault_7 : decode cX4_firstFault 7 = .ok (.iconst 0, 1) := by decide +kernel
theorem dX4_firstFault_8 : decode cX4_firstFault 8 = .ok (.istore 4, 2) := by decide +kernel
theorem dX4_firstFault_10 : decode cX4_firstFault 10 = .ok (.iload 4, 2) := by decide +kernel
theorem dX4_firstFault_12 : decode cX4_firstFault 12 = .ok (.iload_n 3, 1) := by decide +kernel
theorem dX4_firstFault_13 : decode cX4_firstFault 13 = .ok (.if_icmp .ge 28, 3) := by decide +kernel
theorem dX4_firstFault_16 : decode cX4_firstFault 16 = .ok (.iload 4, 2) := by decide +kernel
theorem dX4_firstFault_18 : decode cX4_firstFault 18 = .ok (.aload_n 0, 1) := by decide +kernel
theorem dX4_firstFault_19 : decode cX4_firstFault 19 = .ok (.iload_n 1, 1) := by decide +kernel
theorem dX4_firstFault_20 : decode cX4_firstFault 20 = .ok (.iload 4, 2) := by decide +kernel
theorem dX4_firstFault_22 : decode cX4_firstFault 22 = .ok (.iadd, 1) := by decide +kernel
theorem dX4_firstFault_23 : decode cX4_firstFault 23 = .ok (.invokevirtual 17, 3) := by decide +kernel
theorem dX4_firstFault_26 : decode cX4_firstFault 26 = .ok (.invokestatic 23, 3) := by decide +kernel
theorem dX4_firstFault_29 : decode cX4_firstFault 29 = .ok (.ifCond .ne 6, 3) := by decide +kernel
theorem dX4_firstFault_32 : decode cX4_firstFault 32 = .ok (.iload 4, 2) := by decide +kernel
theorem dX4_firstFault_34 : decode cX4_firstFault 34 = .ok (.ireturn, 1) := by decide +kernel
theorem dX4_firstFault_35 : decode cX4_firstFault 35 = .ok (.iinc 4 1, 3) := by decide +kernel
theorem dX4_firstFault_38 : decode cX4_firstFault 38 = .ok (.goto (-28), 3) := by decide +kernel
theorem dX4_firstFault_41 : decode cX4_firstFault 41 = .ok (.iload_n 3, 1) := by decide +kernel
theorem dX4_firstFault_42 : decode cX4_firstFault 42 = .ok (.bipush 10, 2) := by decide +kernel
theorem dX4_firstFault_44 : decode cX4_firstFault 44 = .ok (.if_icmp .lt 11, 3) := by decide +kernel
theorem dX4_firstFault_47 : decode cX4_firstFault 47 = .ok (.iload_n 3, 1) := by decide +kernel
theorem dX4_firstFault_48 : decode cX4_firstFault 48 = .ok (.iconst 2, 1) := by decide +kernel
theorem dX4_firstFault_49 : decode cX4_firstFault 49 = .ok (.isub, 1) := by decide +kernel
theorem dX4_firstFault_50 : decode cX4_firstFault 50 = .ok (.iconst 4, 1) := by decide +kernel
theorem dX4_firstFault_51 : decode cX4_firstFault 51 = .ok (.irem, 1) := by decide +kernel
theorem dX4_firstFault_52 : decode cX4_firstFault 52 = .ok (.ifCond .eq 5, 3) := by decide +kernel
theorem dX4_firstFault_55 : decode cX4_firstFault 55 = .ok (.iload_n 3, 1) := by decide +kernel
theorem dX4_firstFault_56 : decode cX4_firstFault 56 = .ok (.ireturn, 1) := by decide +kernel
theorem dX4_firstFault_57 : decode cX4_firstFault 57 = .ok (.iload_n 2, 1) := by decide +kernel
theorem dX4_firstFault_58 : decode cX4_firstFault 58 = .ok (.bipush 18, 2) := by decide +kernel
theorem dX4_firstFault_60 : decode cX4_firstFault 60 = .ok (.if_icmp .le 8, 3) := by decide +kernel
theorem dX4_firstFault_63 : decode cX4_firstFault 63 = .ok (.bipush 18, 2) := by decide +kernel
theorem dX4_firstFault_65 : decode cX4_firstFault 65 = .ok (.goto 4, 3) := by decide +kernel
theorem dX4_firstFault_68 : decode cX4_firstFault 68 = .ok (.iconst (-1), 1) := by decide +kernel
theorem dX4_firstFault_69 : decode cX4_firstFault 69 = .ok (.ireturn, 1) := by decide +kernel
theorem dX4_goesOn_0 : decode cX4_goesOn 0 = .ok (.iload_n 0, 1) := by decide +kernel
theorem dX4_goesOn_1 : decode cX4_goesOn 1 = .ok (.ifCond .ne 15, 3) := by decide +kernel
theorem dX4_goesOn_4 : decode cX4_goesOn 4 = .ok (.iload_n 1, 1) := by decide +kernel
theorem dX4_goesOn_5 : decode cX4_goesOn 5 = .ok (.bipush 108, 2) := by decide +kernel
theorem dX4_goesOn_7 : decode cX4_goesOn 7 = .ok (.if_icmp .ne 7, 3) := by decide +kernel
theorem dX4_goesOn_10 : decode cX4_goesOn 10 = .ok (.iconst 1, 1) := by decide +kernel
theorem dX4_goesOn_11 : decode cX4_goesOn 11 = .ok (.goto 4, 3) := by decide +kernel
theorem dX4_goesOn_14 : decode cX4_goesOn 14 = .ok (.iconst 0, 1) := by decide +kernel
theorem dX4_goesOn_15 : decode cX4_goesOn 15 = .ok (.ireturn, 1) := by decide +kernel
theorem dX4_goesOn_16 : decode cX4_goesOn 16 = .ok (.iload_n 0, 1) := by decide +kernel
theorem dX4_goesOn_17 : decode cX4_goesOn 17 = .ok (.iconst 1, 1) := by decide +kernel
theorem dX4_goesOn_18 : decode cX4_goesOn 18 = .ok (.if_icmp .ne 21, 3) := by decide +kernel
theorem dX4_goesOn_21 : decode cX4_goesOn 21 = .ok (.iload_n 1, 1) := by decide +kernel
theorem dX4_goesOn_22 : decode cX4_goesOn 22 = .ok (.bipush 48, 2) := by decide +kernel
theorem dX4_goesOn_24 : decode cX4_goesOn 24 = .ok (.if_icmp .lt 13, 3) := by decide +kernel
theorem dX4_goesOn_27 : decode cX4_goesOn 27 = .ok (.iload_n 1, 1) := by decide +kernel
theorem dX4_goesOn_28 : decode cX4_goesOn 28 = .ok (.bipush 51, 2) := by decide +kernel
theorem dX4_goesOn_30 : decode cX4_goesOn 30 = .ok (.if_icmp .gt 7, 3) := by decide +kernel
theorem dX4_goesOn_33 : decode cX4_goesOn 33 = .ok (.iconst 1, 1) := by decide +kernel
theorem dX4_goesOn_34 : decode cX4_goesOn 34 = .ok (.goto 4, 3) := by decide +kernel
theorem dX4_goesOn_37 : decode cX4_goesOn 37 = .ok (.iconst 0, 1) := by decide +kernel
theorem dX4_goesOn_38 : decode cX4_goesOn 38 = .ok (.ireturn, 1) := by decide +kernel
theorem dX4_goesOn_39 : decode cX4_goesOn 39 = .ok (.iload_n 0, 1) := by decide +kernel
theorem dX4_goesOn_40 : decode cX4_goesOn 40 = .ok (.iconst 2, 1) := by decide +kernel
theorem dX4_goesOn_41 : decode cX4_goesOn 41 = .ok (.isub, 1) := by decide +kernel
theorem dX4_goesOn_42 : decode cX4_goesOn 42 = .ok (.iconst 4, 1) := by decide +kernel
theorem dX4_goesOn_43 : decode cX4_goesOn 43 = .ok (.irem, 1) := by decide +kernel
theorem dX4_goesOn_44 : decode cX4_goesOn 44 = .ok (.lookupswitch 64 #[(0, 28), (1, 40)], 28) := by decide +kernel
theorem dX4_goesOn_72 : decode cX4_goesOn 72 = .ok (.iload_n 1, 1) := by decide +kernel
theorem dX4_goesOn_73 : decode cX4_goesOn 73 = .ok (.bipush 59, 2) := by decide +kernel
theorem dX4_goesOn_75 : decode cX4_goesOn 75 = .ok (.if_icmp .ne 7, 3) := by decide +kernel
theorem dX4_goesOn_78 : decode cX4_goesOn 78 = .ok (.iconst 1, 1) := by decide +kernel
theorem dX4_goesOn_79 : decode cX4_goesOn 79 = .ok (.goto 4, 3) := by decide +kernel
theorem dX4_goesOn_82 : decode cX4_goesOn 82 = .ok (.iconst 0, 1) := by decide +kernel
theorem dX4_goesOn_83 : decode cX4_goesOn 83 = .ok (.ireturn, 1) := by decide +kernel
theorem dX4_goesOn_84 : decode cX4_goesOn 84 = .ok (.iload_n 1, 1) := by decide +kernel
theorem dX4_goesOn_85 : decode cX4_goesOn 85 = .ok (.bipush 109, 2) := by decide +kernel
theorem dX4_goesOn_87 : decode cX4_goesOn 87 = .ok (.if_icmp .eq 15, 3) := by decide +kernel
theorem dX4_goesOn_90 : decode cX4_goesOn 90 = .ok (.iload_n 1, 1) := by decide +kernel
theorem dX4_goesOn_91 : decode cX4_goesOn 91 = .ok (.bipush 112, 2) := by decide +kernel
theorem dX4_goesOn_93 : decode cX4_goesOn 93 = .ok (.if_icmp .eq 9, 3) := by decide +kernel
theorem dX4_goesOn_96 : decode cX4_goesOn 96 = .ok (.iload_n 1, 1) := by decide +kernel
theorem dX4_goesOn_97 : decode cX4_goesOn 97 = .ok (.bipush 115, 2) := by decide +kernel
theorem dX4_goesOn_99 : decode cX4_goesOn 99 = .ok (.if_icmp .ne 7, 3) := by decide +kernel
theorem dX4_goesOn_102 : decode cX4_goesOn 102 = .ok (.iconst 1, 1) := by decide +kernel
theorem dX4_goesOn_103 : decode cX4_goesOn 103 = .ok (.goto 4, 3) := by decide +kernel
theorem dX4_goesOn_106 : decode cX4_goesOn 106 = .ok (.iconst 0, 1) := by decide +kernel
theorem dX4_goesOn_107 : decode cX4_goesOn 107 = .ok (.ireturn, 1) := by decide +kernel
theorem dX4_goesOn_108 : decode cX4_goesOn 108 = .ok (.iload_n 1, 1) := by decide +kernel
theorem dX4_goesOn_109 : decode cX4_goesOn 109 = .ok (.bipush 48, 2) := by decide +kernel
theorem dX4_goesOn_111 : decode cX4_goesOn 111 = .ok (.if_icmp .lt 13, 3) := by decide +kernel
theorem dX4_goesOn_114 : decode cX4_goesOn 114 = .ok (.iload_n 1, 1) := by decide +kernel
theorem dX4_goesOn_115 : decode cX4_goesOn 115 = .ok (.bipush 57, 2) := by decide +kernel
theorem dX4_goesOn_117 : decode cX4_goesOn 117 = .ok (.if_icmp .gt 7, 3) := by decide +kernel
theorem dX4_goesOn_120 : decode cX4_goesOn 120 = .ok (.iconst 1, 1) := by decide +kernel
theorem dX4_goesOn_121 : decode cX4_goesOn 121 = .ok (.goto 4, 3) := by decide +kernel
theorem dX4_goesOn_124 : decode cX4_goesOn 124 = .ok (.iconst 0, 1) := by decide +kernel
theorem dX4_goesOn_125 : decode cX4_goesOn 125 = .ok (.ireturn, 1) := by decide +kernel
set_option maxRecDepth 20000 in
theorem ggX4_take_X3_cellAt : GoodIn wsX4_take wsX3_cellAt := goodIn_r _ [7, 8, 9, 32, 33, 34, 35] (by decide +kernel) (by decide +kernel)
set_option maxRecDepth 20000 in
theorem gX4_take_X3_cellAt : GoodIn wsX4_take (wsV RX4 17 RX3 yX3_cellAt wsX3_cellAt) := goodIn_app (goodIn_of _ (by decide +kernel)) ggX4_take_X3_cellAt
set_option maxRecDepth 20000 in
theorem ggX4_take_X4_kindOfLetter : GoodIn wsX4_take wsX4_kindOfLetter := goodIn_r _ [13] (by decide +kernel) (by decide +kernel)
set_option maxRecDepth 20000 in
theorem gX4_take_X4_kindOfLetter : GoodIn wsX4_take (va_wsS RX4 36 yX4_kindOfLetter wsX4_kindOfLetter) := goodIn_app (goodIn_of _ (by decide +kernel)) ggX4_take_X4_kindOfLetter
set_option maxRecDepth 20000 in
theorem ggX4_take_X0_become : GoodIn wsX4_take wsX0_become := goodIn_r _ [18, 19, 20, 21, 22, 23, 24, 17, 25, 26, 27, 28, 29, 30, 31] (by decide +kernel) (by decide +kernel)
set_option maxRecDepth 20000 in
theorem gX4_take_X0_become : GoodIn wsX4_take (wsV RX4 39 RX0 yX0_become wsX0_become) := goodIn_app (goodIn_of _ (by decide +kernel)) ggX4_take_X0_become
theorem dX4_take_0 : decode cX4_take 0 = .ok (.aload_n 3, 1) := by decide +kernel
theorem dX4_take_1 : decode cX4_take 1 = .ok (.aload_n 0, 1) := by decide +kernel
theorem dX4_take_2 : decode cX4_take 2 = .ok (.iload_n 1, 1) := by decide +kernel
theorem dX4_take_3 : decode cX4_take 3 = .ok (.iconst 1, 1) := by decide +kernel
theorem dX4_take_4 : decode cX4_take 4 = .ok (.iadd, 1) := by decide +kernel
theorem dX4_take_5 : decode cX4_take 5 = .ok (.invokevirtual 17, 3) := by decide +kernel
theorem dX4_take_8 : decode cX4_take 8 = .ok (.bipush 48, 2) := by decide +kernel
theorem dX4_take_10 : decode cX4_take 10 = .ok (.isub, 1) := by decide +kernel
theorem dX4_take_11 : decode cX4_take 11 = .ok (.putfield 27, 3) := by decide +kernel
theorem dX4_take_14 : decode cX4_take 14 = .ok (.aload_n 3, 1) := by decide +kernel
theorem dX4_take_15 : decode cX4_take 15 = .ok (.iload_n 2, 1) := by decide +kernel
theorem dX4_take_16 : decode cX4_take 16 = .ok (.iconst 2, 1) := by decide +kernel
theorem dX4_take_17 : decode cX4_take 17 = .ok (.isub, 1) := by decide +kernel
theorem dX4_take_18 : decode cX4_take 18 = .ok (.iconst 4, 1) := by decide +kernel
theorem dX4_take_19 : decode cX4_take 19 = .ok (.idiv, 1) := by decide +kernel
theorem dX4_take_20 : decode cX4_take 20 = .ok (.putfield 33, 3) := by decide +kernel
theorem dX4_take_23 : decode cX4_take 23 = .ok (.iconst 0, 1) := by decide +kernel
theorem dX4_take_24 : decode cX4_take 24 = .ok (.istore 4, 2) := by decide +kernel
theorem dX4_take_26 : decode cX4_take 26 = .ok (.iload 4, 2) := by decide +kernel
theorem dX4_take_28 : decode cX4_take 28 = .ok (.aload_n 3, 1) := by decide +kernel
theorem dX4_take_29 : decode cX4_take 29 = .ok (.getfield 33, 3) := by decide +kernel
theorem dX4_take_32 : decode cX4_take 32 = .ok (.if_icmp .ge 73, 3) := by decide +kernel
theorem dX4_take_35 : decode cX4_take 35 = .ok (.iload_n 1, 1) := by decide +kernel
theorem dX4_take_36 : decode cX4_take 36 = .ok (.iconst 2, 1) := by decide +kernel
theorem dX4_take_37 : decode cX4_take 37 = .ok (.iadd, 1) := by decide +kernel
theorem dX4_take_38 : decode cX4_take 38 = .ok (.iload 4, 2) := by decide +kernel
theorem dX4_take_40 : decode cX4_take 40 = .ok (.iconst 4, 1) := by decide +kernel
theorem dX4_take_41 : decode cX4_take 41 = .ok (.imul, 1) := by decide +kernel
theorem dX4_take_42 : decode cX4_take 42 = .ok (.iadd, 1) := by decide +kernel
theorem dX4_take_43 : decode cX4_take 43 = .ok (.istore 5, 2) := by decide +kernel
theorem dX4_take_45 : decode cX4_take 45 = .ok (.aload_n 3, 1) := by decide +kernel
theorem dX4_take_46 : decode cX4_take 46 = .ok (.iload 4, 2) := by decide +kernel
theorem dX4_take_48 : decode cX4_take 48 = .ok (.iconst 0, 1) := by decide +kernel
theorem dX4_take_49 : decode cX4_take 49 = .ok (.aload_n 0, 1) := by decide +kernel
theorem dX4_take_50 : decode cX4_take 50 = .ok (.iload 5, 2) := by decide +kernel
theorem dX4_take_52 : decode cX4_take 52 = .ok (.iconst 1, 1) := by decide +kernel
theorem dX4_take_53 : decode cX4_take 53 = .ok (.iadd, 1) := by decide +kernel
theorem dX4_take_54 : decode cX4_take 54 = .ok (.invokevirtual 17, 3) := by decide +kernel
theorem dX4_take_57 : decode cX4_take 57 = .ok (.invokestatic 36, 3) := by decide +kernel
theorem dX4_take_60 : decode cX4_take 60 = .ok (.invokevirtual 39, 3) := by decide +kernel
theorem dX4_take_63 : decode cX4_take 63 = .ok (.aload_n 3, 1) := by decide +kernel
theorem dX4_take_64 : decode cX4_take 64 = .ok (.iload 4, 2) := by decide +kernel
theorem dX4_take_66 : decode cX4_take 66 = .ok (.iconst 1, 1) := by decide +kernel
theorem dX4_take_67 : decode cX4_take 67 = .ok (.aload_n 0, 1) := by decide +kernel
theorem dX4_take_68 : decode cX4_take 68 = .ok (.iload 5, 2) := by decide +kernel
theorem dX4_take_70 : decode cX4_take 70 = .ok (.iconst 2, 1) := by decide +kernel
theorem dX4_take_71 : decode cX4_take 71 = .ok (.iadd, 1) := by decide +kernel
theorem dX4_take_72 : decode cX4_take 72 = .ok (.invokevirtual 17, 3) := by decide +kernel
theorem dX4_take_75 : decode cX4_take 75 = .ok (.bipush 48, 2) := by decide +kernel
theorem dX4_take_77 : decode cX4_take 77 = .ok (.isub, 1) := by decide +kernel
theorem dX4_take_78 : decode cX4_take 78 = .ok (.invokevirtual 39, 3) := by decide +kernel
theorem dX4_take_81 : decode cX4_take 81 = .ok (.aload_n 3, 1) := by decide +kernel
theorem dX4_take_82 : decode cX4_take 82 = .ok (.iload 4, 2) := by decide +kernel
theorem dX4_take_84 : decode cX4_take 84 = .ok (.iconst 2, 1) := by decide +kernel
theorem dX4_take_85 : decode cX4_take 85 = .ok (.aload_n 0, 1) := by decide +kernel
theorem dX4_take_86 : decode cX4_take 86 = .ok (.iload 5, 2) := by decide +kernel
theorem dX4_take_88 : decode cX4_take 88 = .ok (.iconst 3, 1) := by decide +kernel
theorem dX4_take_89 : decode cX4_take 89 = .ok (.iadd, 1) := by decide +kernel
theorem dX4_take_90 : decode cX4_take 90 = .ok (.invokevirtual 17, 3) := by decide +kernel
theorem dX4_take_93 : decode cX4_take 93 = .ok (.bipush 48, 2) := by decide +kernel
theorem dX4_take_95 : decode cX4_take 95 = .ok (.isub, 1) := by decide +kernel
theorem dX4_take_96 : decode cX4_take 96 = .ok (.invokevirtual 39, 3) := by decide +kernel
theorem dX4_take_99 : decode cX4_take 99 = .ok (.iinc 4 1, 3) := by decide +kernel
theorem dX4_take_102 : decode cX4_take 102 = .ok (.goto (-76), 3) := by decide +kernel
theorem dX4_take_105 : decode cX4_take 105 = .ok (.return_, 1) := by decide +kernel
theorem dX4_kindOfLetter_0 : decode cX4_kindOfLetter 0 = .ok (.iload_n 0, 1) := by decide +kernel
theorem dX4_kindOfLetter_1 : decode cX4_kindOfLetter 1 = .ok (.bipush 115, 2) := by decide +kernel
theorem dX4_kindOfLetter_3 : decode cX4_kindOfLetter 3 = .ok (.if_icmp .ne 5, 3) := by decide +kernel
theorem dX4_kindOfLetter_6 : decode cX4_kindOfLetter 6 = .ok (.iconst 2, 1) := by decide +kernel
theorem dX4_kindOfLetter_7 : decode cX4_kindOfLetter 7 = .ok (.ireturn, 1) := by decide +kernel
theorem dX4_kindOfLetter_8 : decode cX4_kindOfLetter 8 = .ok (.iload_n 0, 1) := by decide +kernel
theorem dX4_kindOfLetter_9 : decode cX4_kindOfLetter 9 = .ok (.bipush 112, 2) := by decide +kernel
theorem dX4_kindOfLetter_11 : decode cX4_kindOfLetter 11 = .ok (.if_icmp .ne 7, 3) := by decide +kernel
theorem dX4_kindOfLetter_14 : decode cX4_kindOfLetter 14 = .ok (.iconst 1, 1) := by decide +kernel
theorem dX4_kindOfLetter_15 : decode cX4_kindOfLetter 15 = .ok (.goto 4, 3) := by decide +kernel
theorem dX4_kindOfLetter_18 : decode cX4_kindOfLetter 18 = .ok (.iconst 0, 1) := by decide +kernel
theorem dX4_kindOfLetter_19 : decode cX4_kindOfLetter 19 = .ok (.ireturn, 1) := by decide +kernel
set_option maxRecDepth 20000 in
theorem ggX5_init_X0_init : GoodIn wsX5_init wsX0_init := goodIn_r _ [22, 23, 2, 3, 24, 25, 26, 27, 56, 57, 58, 59, 60] (by decide +kernel) (by decide +kernel)
set_option maxRecDepth 20000 in
theorem gX5_init_X0_init_n19 : GoodIn wsX5_init (wsX0_init) := ggX5_init_X0_init
set_option maxRecDepth 20000 in
theorem ggX5_init_X1_init : GoodIn wsX5_init wsX1_init := goodIn_r _ [29, 30, 2, 3, 24, 31, 32, 33, 34, 61, 62, 63, 64] (by decide +kernel) (by decide +kernel)
set_option maxRecDepth 20000 in
theorem gX5_init_X1_init_n29 : GoodIn wsX5_init (wsX1_init) := ggX5_init_X1_init
set_option maxRecDepth 20000 in
theorem ggX5_init_X2_init : GoodIn wsX5_init wsX2_init := goodIn_r _ [36, 37, 2, 3, 38, 24, 39, 40, 41, 42, 43, 44, 65, 66, 67, 68, 69, 70, 71, 72, 73, 74, 75, 76] (by decide +kernel) (by decide +kernel)
set_option maxRecDepth 20000 in
theorem gX5_init_X2_init_n36 : GoodIn wsX5_init (wsX2_init) := ggX5_init_X2_init
set_option maxRecDepth 20000 in
theorem ggX5_init_X3_init : GoodIn wsX5_init wsX3_init := goodIn_r _ [46, 47, 2, 3, 24, 48, 77, 78, 79, 80] (by decide +kernel) (by decide +kernel)
set_option maxRecDepth 20000 in
theorem gX5_init_X3_init_n41 : GoodIn wsX5_init (wsX3_init) := ggX5_init_X3_init
theorem dX5_init_0 : decode cX5_init 0 = .ok (.aload_n 0, 1) := by decide +kernel
theorem dX5_init_1 : decode cX5_init 1 = .ok (.invokespecial 3, 3) := by decide +kernel
theorem dX5_init_4 : decode cX5_init 4 = .ok (.aload_n 0, 1) := by decide +kernel
theorem dX5_init_5 : decode cX5_init 5 = .ok (.iconst 4, 1) := by decide +kernel
theorem dX5_init_6 : decode cX5_init 6 = .ok (.anewarray 11, 3) := by decide +kernel
theorem dX5_init_9 : decode cX5_init 9 = .ok (.putfield 13, 3) := by decide +kernel
theorem dX5_init_12 : decode cX5_init 12 = .ok (.aload_n 0, 1) := by decide +kernel
theorem dX5_init_13 : decode cX5_init 13 = .ok (.new 17, 3) := by decide +kernel
theorem dX5_init_16 : decode cX5_init 16 = .ok (.dup, 1) := by decide +kernel
theorem dX5_init_17 : decode cX5_init 17 = .ok (.invokespecial 19, 3) := by decide +kernel
theorem dX5_init_20 : decode cX5_init 20 = .ok (.putfield 20, 3) := by decide +kernel
theorem dX5_init_23 : decode cX5_init 23 = .ok (.aload_n 0, 1) := by decide +kernel
theorem dX5_init_24 : decode cX5_init 24 = .ok (.new 17, 3) := by decide +kernel
theorem dX5_init_27 : decode cX5_init 27 = .ok (.dup, 1) := by decide +kernel
theorem dX5_init_28 : decode cX5_init 28 = .ok (.invokespecial 19, 3) := by decide +kernel
theorem dX5_init_31 : decode cX5_init 31 = .ok (.putfield 24, 3) := by decide +kernel
theorem dX5_init_34 : decode cX5_init 34 = .ok (.aload_n 0, 1) := by decide +kernel
theorem dX5_init_35 : decode cX5_init 35 = .ok (.new 27, 3) := by decide +kernel
theorem dX5_init_38 : decode cX5_init 38 = .ok (.dup, 1) := by decide +kernel
theorem dX5_init_39 : decode cX5_init 39 = .ok (.invokespecial 29, 3) := by decide +kernel
theorem dX5_init_42 : decode cX5_init 42 = .ok (.putfield 30, 3) := by decide +kernel
theorem dX5_init_45 : decode cX5_init 45 = .ok (.aload_n 0, 1) := by decide +kernel
theorem dX5_init_46 : decode cX5_init 46 = .ok (.new 34, 3) := by decide +kernel
theorem dX5_init_49 : decode cX5_init 49 = .ok (.dup, 1) := by decide +kernel
theorem dX5_init_50 : decode cX5_init 50 = .ok (.invokespecial 36, 3) := by decide +kernel
theorem dX5_init_53 : decode cX5_init 53 = .ok (.putfield 37, 3) := by decide +kernel
theorem dX5_init_56 : decode cX5_init 56 = .ok (.iconst 0, 1) := by decide +kernel
theorem dX5_init_57 : decode cX5_init 57 = .ok (.istore_n 1, 1) := by decide +kernel
theorem dX5_init_58 : decode cX5_init 58 = .ok (.iload_n 1, 1) := by decide +kernel
theorem dX5_init_59 : decode cX5_init 59 = .ok (.aload_n 0, 1) := by decide +kernel
theorem dX5_init_60 : decode cX5_init 60 = .ok (.getfield 13, 3) := by decide +kernel
theorem dX5_init_63 : decode cX5_init 63 = .ok (.arraylength, 1) := by decide +kernel
theorem dX5_init_64 : decode cX5_init 64 = .ok (.if_icmp .ge 22, 3) := by decide +kernel
theorem dX5_init_67 : decode cX5_init 67 = .ok (.aload_n 0, 1) := by decide +kernel
theorem dX5_init_68 : decode cX5_init 68 = .ok (.getfield 13, 3) := by decide +kernel
theorem dX5_init_71 : decode cX5_init 71 = .ok (.iload_n 1, 1) := by decide +kernel
theorem dX5_init_72 : decode cX5_init 72 = .ok (.new 11, 3) := by decide +kernel
theorem dX5_init_75 : decode cX5_init 75 = .ok (.dup, 1) := by decide +kernel
theorem dX5_init_76 : decode cX5_init 76 = .ok (.invokespecial 41, 3) := by decide +kernel
theorem dX5_init_79 : decode cX5_init 79 = .ok (.aastore, 1) := by decide +kernel
theorem dX5_init_80 : decode cX5_init 80 = .ok (.iinc 1 1, 3) := by decide +kernel
theorem dX5_init_83 : decode cX5_init 83 = .ok (.goto (-25), 3) := by decide +kernel
theorem dX5_init_86 : decode cX5_init 86 = .ok (.return_, 1) := by decide +kernel
set_option maxRecDepth 20000 in
theorem ggX5_canal_X5_sheetAt : GoodIn wsX5_canal wsX5_sheetAt := goodIn_r _ [10, 11, 68, 69, 70, 71, 72, 73, 74] (by decide +kernel) (by decide +kernel)
set_option maxRecDepth 20000 in
theorem gX5_canal_X5_sheetAt : GoodIn wsX5_canal (wsV RX5 46 RX5 yX5_sheetAt wsX5_sheetAt) := goodIn_app (goodIn_of _ (by decide +kernel)) ggX5_canal_X5_sheetAt
set_option maxRecDepth 20000 in
theorem ggX5_canal_X5_isLane : GoodIn wsX5_canal wsX5_isLane := goodIn_r _ [14] (by decide +kernel) (by decide +kernel)
set_option maxRecDepth 20000 in
theorem gX5_canal_X5_isLane : GoodIn wsX5_canal (va_wsS RX5 50 yX5_isLane wsX5_isLane) := goodIn_app (goodIn_of _ (by decide +kernel)) ggX5_canal_X5_isLane
set_option maxRecDepth 20000 in
theorem ggX5_canal_X3_faultOf : GoodIn wsX5_canal wsX3_faultOf := goodIn_r _ [19, 20, 21, 22, 23, 24, 18, 25, 26, 27, 84, 85, 86, 87] (by decide +kernel) (by decide +kernel)
set_option maxRecDepth 20000 in
theorem gX5_canal_X3_faultOf : GoodIn wsX5_canal (wsV RX5 54 RX3 yX3_faultOf wsX3_faultOf) := goodIn_app (goodIn_of _ (by decide +kernel)) ggX5_canal_X3_faultOf
set_option maxRecDepth 20000 in
theorem ggX5_canal_X5_faulted : GoodIn wsX5_canal wsX5_faulted := goodIn_r _ [31, 1, 68, 69, 70, 71, 72, 73, 74] (by decide +kernel) (by decide +kernel)
set_option maxRecDepth 20000 in
theorem gX5_canal_X5_faulted : GoodIn wsX5_canal (wsV RX5 58 RX5 yX5_faulted wsX5_faulted) := goodIn_app (goodIn_of _ (by decide +kernel)) ggX5_canal_X5_faulted
set_option maxRecDepth 20000 in
theorem ggX5_canal_X4_firstFault : GoodIn wsX5_canal wsX4_firstFault := goodIn_r _ [35, 36, 37, 38, 39, 40, 41, 42, 18, 43, 26, 27, 44, 45, 34, 46, 84, 85, 86, 87] (by decide +kernel) (by decide +kernel)
set_option maxRecDepth 20000 in
theorem gX5_canal_X4_firstFault : GoodIn wsX5_canal (va_wsS RX5 62 yX4_firstFault wsX4_firstFault) := goodIn_app (goodIn_of _ (by decide +kernel)) ggX5_canal_X4_firstFault
set_option maxRecDepth 20000 in
theorem ggX5_canal_X4_take : GoodIn wsX5_canal wsX4_take := goodIn_r _ [49, 50, 51, 40, 41, 42, 18, 43, 26, 27, 52, 53, 34, 54, 55, 56, 57, 58, 59, 60, 61, 62, 63, 64, 65, 66, 67, 79, 80, 81, 82, 83, 84, 85, 86, 87] (by decide +kernel) (by decide +kernel)
set_option maxRecDepth 20000 in
theorem gX5_canal_X4_take : GoodIn wsX5_canal (va_wsS RX5 68 yX4_take wsX4_take) := goodIn_app (goodIn_of _ (by decide +kernel)) ggX5_canal_X4_take
theorem dX5_canal_0 : decode cX5_canal 0 = .ok (.aload_n 0, 1) := by decide +kernel
theorem dX5_canal_1 : decode cX5_canal 1 = .ok (.iconst 0, 1) := by decide +kernel
theorem dX5_canal_2 : decode cX5_canal 2 = .ok (.putfield 42, 3) := by decide +kernel
theorem dX5_canal_5 : decode cX5_canal 5 = .ok (.aload_n 0, 1) := by decide +kernel
theorem dX5_canal_6 : decode cX5_canal 6 = .ok (.iload_n 1, 1) := by decide +kernel
theorem dX5_canal_7 : decode cX5_canal 7 = .ok (.invokevirtual 46, 3) := by decide +kernel
theorem dX5_canal_10 : decode cX5_canal 10 = .ok (.astore 5, 2) := by decide +kernel
theorem dX5_canal_12 : decode cX5_canal 12 = .ok (.aload 5, 2) := by decide +kernel
theorem dX5_canal_14 : decode cX5_canal 14 = .ok (.ifnonnull 5, 3) := by decide +kernel
theorem dX5_canal_17 : decode cX5_canal 17 = .ok (.iconst (-1), 1) := by decide +kernel
theorem dX5_canal_18 : decode cX5_canal 18 = .ok (.ireturn, 1) := by decide +kernel
theorem dX5_canal_19 : decode cX5_canal 19 = .ok (.iload_n 2, 1) := by decide +kernel
theorem dX5_canal_20 : decode cX5_canal 20 = .ok (.invokestatic 50, 3) := by decide +kernel
theorem dX5_canal_23 : decode cX5_canal 23 = .ok (.ifCond .ne 6, 3) := by decide +kernel
theorem dX5_canal_26 : decode cX5_canal 26 = .ok (.bipush (-2), 2) := by decide +kernel
theorem dX5_canal_28 : decode cX5_canal 28 = .ok (.ireturn, 1) := by decide +kernel
theorem dX5_canal_29 : decode cX5_canal 29 = .ok (.aload 5, 2) := by decide +kernel
theorem dX5_canal_31 : decode cX5_canal 31 = .ok (.iload_n 2, 1) := by decide +kernel
theorem dX5_canal_32 : decode cX5_canal 32 = .ok (.iload_n 3, 1) := by decide +kernel
theorem dX5_canal_33 : decode cX5_canal 33 = .ok (.iload 4, 2) := by decide +kernel
theorem dX5_canal_35 : decode cX5_canal 35 = .ok (.invokevirtual 54, 3) := by decide +kernel
theorem dX5_canal_38 : decode cX5_canal 38 = .ok (.istore 6, 2) := by decide +kernel
theorem dX5_canal_40 : decode cX5_canal 40 = .ok (.iload 6, 2) := by decide +kernel
theorem dX5_canal_42 : decode cX5_canal 42 = .ok (.ifCond .eq 10, 3) := by decide +kernel
theorem dX5_canal_45 : decode cX5_canal 45 = .ok (.aload_n 0, 1) := by decide +kernel
theorem dX5_canal_46 : decode cX5_canal 46 = .ok (.iload 6, 2) := by decide +kernel
theorem dX5_canal_48 : decode cX5_canal 48 = .ok (.invokevirtual 58, 3) := by decide +kernel
theorem dX5_canal_51 : decode cX5_canal 51 = .ok (.ireturn, 1) := by decide +kernel
theorem dX5_canal_52 : decode cX5_canal 52 = .ok (.aload 5, 2) := by decide +kernel
theorem dX5_canal_54 : decode cX5_canal 54 = .ok (.iload_n 3, 1) := by decide +kernel
theorem dX5_canal_55 : decode cX5_canal 55 = .ok (.iload 4, 2) := by decide +kernel
theorem dX5_canal_57 : decode cX5_canal 57 = .ok (.invokestatic 62, 3) := by decide +kernel
theorem dX5_canal_60 : decode cX5_canal 60 = .ok (.istore 7, 2) := by decide +kernel
theorem dX5_canal_62 : decode cX5_canal 62 = .ok (.iload 7, 2) := by decide +kernel
theorem dX5_canal_64 : decode cX5_canal 64 = .ok (.iconst (-1), 1) := by decide +kernel
theorem dX5_canal_65 : decode cX5_canal 65 = .ok (.if_icmp .eq 9, 3) := by decide +kernel
theorem dX5_canal_68 : decode cX5_canal 68 = .ok (.bipush (-100), 2) := by decide +kernel
theorem dX5_canal_70 : decode cX5_canal 70 = .ok (.iload 7, 2) := by decide +kernel
theorem dX5_canal_72 : decode cX5_canal 72 = .ok (.isub, 1) := by decide +kernel
theorem dX5_canal_73 : decode cX5_canal 73 = .ok (.ireturn, 1) := by decide +kernel
theorem dX5_canal_74 : decode cX5_canal 74 = .ok (.aload 5, 2) := by decide +kernel
theorem dX5_canal_76 : decode cX5_canal 76 = .ok (.iload_n 3, 1) := by decide +kernel
theorem dX5_canal_77 : decode cX5_canal 77 = .ok (.iload 4, 2) := by decide +kernel
theorem dX5_canal_79 : decode cX5_canal 79 = .ok (.aload_n 0, 1) := by decide +kernel
theorem dX5_canal_80 : decode cX5_canal 80 = .ok (.getfield 20, 3) := by decide +kernel
theorem dX5_canal_83 : decode cX5_canal 83 = .ok (.invokestatic 68, 3) := by decide +kernel
theorem dX5_canal_86 : decode cX5_canal 86 = .ok (.aload_n 0, 1) := by decide +kernel
theorem dX5_canal_87 : decode cX5_canal 87 = .ok (.getfield 30, 3) := by decide +kernel
theorem dX5_canal_90 : decode cX5_canal 90 = .ok (.iconst 0, 1) := by decide +kernel
theorem dX5_canal_91 : decode cX5_canal 91 = .ok (.putfield 72, 3) := by decide +kernel
theorem dX5_canal_94 : decode cX5_canal 94 = .ok (.aload_n 0, 1) := by decide +kernel
theorem dX5_canal_95 : decode cX5_canal 95 = .ok (.getfield 20, 3) := by decide +kernel
theorem dX5_canal_98 : decode cX5_canal 98 = .ok (.getfield 75, 3) := by decide +kernel
theorem dX5_canal_101 : decode cX5_canal 101 = .ok (.ireturn, 1) := by decide +kernel
set_option maxRecDepth 20000 in
theorem ggX5_ofReach_X0_has : GoodIn wsX5_ofReach wsX0_has := goodIn_r _ [6, 7, 41, 42, 43, 44, 45] (by decide +kernel) (by decide +kernel)
set_option maxRecDepth 20000 in
theorem gX5_ofReach_X0_has : GoodIn wsX5_ofReach (wsV RX5 76 RX0 yX0_has wsX0_has) := goodIn_app (goodIn_of _ (by decide +kernel)) ggX5_ofReach_X0_has
set_option maxRecDepth 20000 in
theorem ggX5_ofReach_X0_kindOf : GoodIn wsX5_ofReach wsX0_kindOf := goodIn_r _ [11, 12, 13, 3, 4, 5, 6, 7, 41, 42, 43, 44, 45] (by decide +kernel) (by decide +kernel)
set_option maxRecDepth 20000 in
theorem gX5_ofReach_X0_kindOf : GoodIn wsX5_ofReach (wsV RX5 79 RX0 yX0_kindOf wsX0_kindOf) := goodIn_app (goodIn_of _ (by decide +kernel)) ggX5_ofReach_X0_kindOf
set_option maxRecDepth 20000 in
theorem ggX5_ofReach_X0_levelOf : GoodIn wsX5_ofReach wsX0_levelOf := goodIn_r _ [17, 18, 13, 3, 4, 5, 6, 7, 41, 42, 43, 44, 45] (by decide +kernel) (by decide +kernel)
set_option maxRecDepth 20000 in
theorem gX5_ofReach_X0_levelOf : GoodIn wsX5_ofReach (wsV RX5 82 RX0 yX0_levelOf wsX0_levelOf) := goodIn_app (goodIn_of _ (by decide +kernel)) ggX5_ofReach_X0_levelOf
set_option maxRecDepth 20000 in
theorem ggX5_ofReach_X0_limitOf : GoodIn wsX5_ofReach wsX0_limitOf := goodIn_r _ [22, 23, 13, 3, 4, 5, 6, 7, 41, 42, 43, 44, 45] (by decide +kernel) (by decide +kernel)
set_option maxRecDepth 20000 in
theorem gX5_ofReach_X0_limitOf : GoodIn wsX5_ofReach (wsV RX5 85 RX0 yX0_limitOf wsX0_limitOf) := goodIn_app (goodIn_of _ (by decide +kernel)) ggX5_ofReach_X0_limitOf
set_option maxRecDepth 20000 in
theorem ggX5_ofReach_X0_wantOf : GoodIn wsX5_ofReach wsX0_wantOf := goodIn_r _ [27, 28, 29, 30, 31, 32, 20, 21, 5, 22, 23, 13, 3, 4, 6, 7, 33, 9, 10, 11, 12, 41, 42, 43, 44, 45] (by decide +kernel) (by decide +kernel)
set_option maxRecDepth 20000 in
theorem gX5_ofReach_X0_wantOf : GoodIn wsX5_ofReach (wsV RX5 88 RX0 yX0_wantOf wsX0_wantOf) := goodIn_app (goodIn_of _ (by decide +kernel)) ggX5_ofReach_X0_wantOf
theorem dX5_ofReach_0 : decode cX5_ofReach 0 = .ok (.aload_n 0, 1) := by decide +kernel
theorem dX5_ofReach_1 : decode cX5_ofReach 1 = .ok (.getfield 20, 3) := by decide +kernel
theorem dX5_ofReach_4 : decode cX5_ofReach 4 = .ok (.iload_n 1, 1) := by decide +kernel
theorem dX5_ofReach_5 : decode cX5_ofReach 5 = .ok (.invokevirtual 76, 3) := by decide +kernel
theorem dX5_ofReach_8 : decode cX5_ofReach 8 = .ok (.ifCond .ne 5, 3) := by decide +kernel
theorem dX5_ofReach_11 : decode cX5_ofReach 11 = .ok (.iconst (-1), 1) := by decide +kernel
theorem dX5_ofReach_12 : decode cX5_ofReach 12 = .ok (.ireturn, 1) := by decide +kernel
theorem dX5_ofReach_13 : decode cX5_ofReach 13 = .ok (.iload_n 2, 1) := by decide +kernel
theorem dX5_ofReach_14 : decode cX5_ofReach 14 = .ok (.tableswitch 66 0 3 #[30, 39, 48, 57], 30) := by decide +kernel
theorem dX5_ofReach_44 : decode cX5_ofReach 44 = .ok (.aload_n 0, 1) := by decide +kernel
theorem dX5_ofReach_45 : decode cX5_ofReach 45 = .ok (.getfield 20, 3) := by decide +kernel
theorem dX5_ofReach_48 : decode cX5_ofReach 48 = .ok (.iload_n 1, 1) := by decide +kernel
theorem dX5_ofReach_49 : decode cX5_ofReach 49 = .ok (.invokevirtual 79, 3) := by decide +kernel
theorem dX5_ofReach_52 : decode cX5_ofReach 52 = .ok (.ireturn, 1) := by decide +kernel
theorem dX5_ofReach_53 : decode cX5_ofReach 53 = .ok (.aload_n 0, 1) := by decide +kernel
theorem dX5_ofReach_54 : decode cX5_ofReach 54 = .ok (.getfield 20, 3) := by decide +kernel
theorem dX5_ofReach_57 : decode cX5_ofReach 57 = .ok (.iload_n 1, 1) := by decide +kernel
theorem dX5_ofReach_58 : decode cX5_ofReach 58 = .ok (.invokevirtual 82, 3) := by decide +kernel
theorem dX5_ofReach_61 : decode cX5_ofReach 61 = .ok (.ireturn, 1) := by decide +kernel
theorem dX5_ofReach_62 : decode cX5_ofReach 62 = .ok (.aload_n 0, 1) := by decide +kernel
theorem dX5_ofReach_63 : decode cX5_ofReach 63 = .ok (.getfield 20, 3) := by decide +kernel
theorem dX5_ofReach_66 : decode cX5_ofReach 66 = .ok (.iload_n 1, 1) := by decide +kernel
theorem dX5_ofReach_67 : decode cX5_ofReach 67 = .ok (.invokevirtual 85, 3) := by decide +kernel
theorem dX5_ofReach_70 : decode cX5_ofReach 70 = .ok (.ireturn, 1) := by decide +kernel
theorem dX5_ofReach_71 : decode cX5_ofReach 71 = .ok (.aload_n 0, 1) := by decide +kernel
theorem dX5_ofReach_72 : decode cX5_ofReach 72 = .ok (.getfield 20, 3) := by decide +kernel
theorem dX5_ofReach_75 : decode cX5_ofReach 75 = .ok (.iload_n 1, 1) := by decide +kernel
theorem dX5_ofReach_76 : decode cX5_ofReach 76 = .ok (.invokevirtual 88, 3) := by decide +kernel
theorem dX5_ofReach_79 : decode cX5_ofReach 79 = .ok (.ireturn, 1) := by decide +kernel
theorem dX5_ofReach_80 : decode cX5_ofReach 80 = .ok (.bipush (-2), 2) := by decide +kernel
theorem dX5_ofReach_82 : decode cX5_ofReach 82 = .ok (.ireturn, 1) := by decide +kernel
set_option maxRecDepth 20000 in
theorem ggX5_fill_X0_has : GoodIn wsX5_fill wsX0_has := goodIn_r _ [6, 7, 31, 32, 33, 34, 35] (by decide +kernel) (by decide +kernel)
set_option maxRecDepth 20000 in
theorem gX5_fill_X0_has : GoodIn wsX5_fill (wsV RX5 76 RX0 yX0_has wsX0_has) := goodIn_app (goodIn_of _ (by decide +kernel)) ggX5_fill_X0_has
set_option maxRecDepth 20000 in
theorem ggX5_fill_X5_isFrom0To : GoodIn wsX5_fill wsX5_isFrom0To := goodIn_r _ [11] (by decide +kernel) (by decide +kernel)
set_option maxRecDepth 20000 in
theorem gX5_fill_X5_isFrom0To : GoodIn wsX5_fill (va_wsS RX5 91 yX5_isFrom0To wsX5_isFrom0To) := goodIn_app (goodIn_of _ (by decide +kernel)) ggX5_fill_X5_isFrom0To
set_option maxRecDepth 20000 in
theorem ggX5_fill_X0_levelOf : GoodIn wsX5_fill wsX0_levelOf := goodIn_r _ [15, 16, 17, 3, 4, 5, 6, 7, 31, 32, 33, 34, 35] (by decide +kernel) (by decide +kernel)
set_option maxRecDepth 20000 in
theorem gX5_fill_X0_levelOf : GoodIn wsX5_fill (wsV RX5 82 RX0 yX0_levelOf wsX0_levelOf) := goodIn_app (goodIn_of _ (by decide +kernel)) ggX5_fill_X0_levelOf
set_option maxRecDepth 20000 in
theorem ggX5_fill_X0_become : GoodIn wsX5_fill wsX0_become := goodIn_r _ [21, 22, 16, 23, 17, 3, 4, 5, 6, 7, 31, 32, 33, 34, 35] (by decide +kernel) (by decide +kernel)
set_option maxRecDepth 20000 in
theorem gX5_fill_X0_become : GoodIn wsX5_fill (wsV RX5 95 RX0 yX0_become wsX0_become) := goodIn_app (goodIn_of _ (by decide +kernel)) ggX5_fill_X0_become
theorem dX5_fill_0 : decode cX5_fill 0 = .ok (.aload_n 0, 1) := by decide +kernel
theorem dX5_fill_1 : decode cX5_fill 1 = .ok (.getfield 20, 3) := by decide +kernel
theorem dX5_fill_4 : decode cX5_fill 4 = .ok (.iload_n 1, 1) := by decide +kernel
theorem dX5_fill_5 : decode cX5_fill 5 = .ok (.invokevirtual 76, 3) := by decide +kernel
theorem dX5_fill_8 : decode cX5_fill 8 = .ok (.ifCond .ne 5, 3) := by decide +kernel
theorem dX5_fill_11 : decode cX5_fill 11 = .ok (.iconst (-1), 1) := by decide +kernel
theorem dX5_fill_12 : decode cX5_fill 12 = .ok (.ireturn, 1) := by decide +kernel
theorem dX5_fill_13 : decode cX5_fill 13 = .ok (.iload_n 2, 1) := by decide +kernel
theorem dX5_fill_14 : decode cX5_fill 14 = .ok (.bipush 9, 2) := by decide +kernel
theorem dX5_fill_16 : decode cX5_fill 16 = .ok (.invokestatic 91, 3) := by decide +kernel
theorem dX5_fill_19 : decode cX5_fill 19 = .ok (.ifCond .ne 6, 3) := by decide +kernel
theorem dX5_fill_22 : decode cX5_fill 22 = .ok (.bipush (-2), 2) := by decide +kernel
theorem dX5_fill_24 : decode cX5_fill 24 = .ok (.ireturn, 1) := by decide +kernel
theorem dX5_fill_25 : decode cX5_fill 25 = .ok (.aload_n 0, 1) := by decide +kernel
theorem dX5_fill_26 : decode cX5_fill 26 = .ok (.getfield 20, 3) := by decide +kernel
theorem dX5_fill_29 : decode cX5_fill 29 = .ok (.iload_n 1, 1) := by decide +kernel
theorem dX5_fill_30 : decode cX5_fill 30 = .ok (.invokevirtual 82, 3) := by decide +kernel
theorem dX5_fill_33 : decode cX5_fill 33 = .ok (.istore_n 3, 1) := by decide +kernel
theorem dX5_fill_34 : decode cX5_fill 34 = .ok (.aload_n 0, 1) := by decide +kernel
theorem dX5_fill_35 : decode cX5_fill 35 = .ok (.getfield 20, 3) := by decide +kernel
theorem dX5_fill_38 : decode cX5_fill 38 = .ok (.iload_n 1, 1) := by decide +kernel
theorem dX5_fill_39 : decode cX5_fill 39 = .ok (.iconst 1, 1) := by decide +kernel
theorem dX5_fill_40 : decode cX5_fill 40 = .ok (.iload_n 2, 1) := by decide +kernel
theorem dX5_fill_41 : decode cX5_fill 41 = .ok (.invokevirtual 95, 3) := by decide +kernel
theorem dX5_fill_44 : decode cX5_fill 44 = .ok (.iload_n 3, 1) := by decide +kernel
theorem dX5_fill_45 : decode cX5_fill 45 = .ok (.ireturn, 1) := by decide +kernel
set_option maxRecDepth 20000 in
theorem ggX5_rain_X5_isFrom0To : GoodIn wsX5_rain wsX5_isFrom0To := goodIn_r _ [6] (by decide +kernel) (by decide +kernel)
set_option maxRecDepth 20000 in
theorem gX5_rain_X5_isFrom0To : GoodIn wsX5_rain (va_wsS RX5 91 yX5_isFrom0To wsX5_isFrom0To) := goodIn_app (goodIn_of _ (by decide +kernel)) ggX5_rain_X5_isFrom0To
set_option maxRecDepth 20000 in
theorem ggX5_rain_X0_isNone : GoodIn wsX5_rain wsX0_isNone := goodIn_r _ [11, 12, 20, 21, 22, 23, 24] (by decide +kernel) (by decide +kernel)
set_option maxRecDepth 20000 in
theorem gX5_rain_X0_isNone : GoodIn wsX5_rain (wsV RX5 99 RX0 yX0_isNone wsX0_isNone) := goodIn_app (goodIn_of _ (by decide +kernel)) ggX5_rain_X0_isNone
theorem dX5_rain_0 : decode cX5_rain 0 = .ok (.iload_n 1, 1) := by decide +kernel
theorem dX5_rain_1 : decode cX5_rain 1 = .ok (.iconst 3, 1) := by decide +kernel
theorem dX5_rain_2 : decode cX5_rain 2 = .ok (.invokestatic 91, 3) := by decide +kernel
theorem dX5_rain_5 : decode cX5_rain 5 = .ok (.ifCond .ne 6, 3) := by decide +kernel
theorem dX5_rain_8 : decode cX5_rain 8 = .ok (.bipush (-2), 2) := by decide +kernel
theorem dX5_rain_10 : decode cX5_rain 10 = .ok (.ireturn, 1) := by decide +kernel
theorem dX5_rain_11 : decode cX5_rain 11 = .ok (.aload_n 0, 1) := by decide +kernel
theorem dX5_rain_12 : decode cX5_rain 12 = .ok (.getfield 20, 3) := by decide +kernel
theorem dX5_rain_15 : decode cX5_rain 15 = .ok (.invokevirtual 99, 3) := by decide +kernel
theorem dX5_rain_18 : decode cX5_rain 18 = .ok (.ifCond .eq 6, 3) := by decide +kernel
theorem dX5_rain_21 : decode cX5_rain 21 = .ok (.bipush (-3), 2) := by decide +kernel
theorem dX5_rain_23 : decode cX5_rain 23 = .ok (.ireturn, 1) := by decide +kernel
theorem dX5_rain_24 : decode cX5_rain 24 = .ok (.aload_n 0, 1) := by decide +kernel
theorem dX5_rain_25 : decode cX5_rain 25 = .ok (.getfield 20, 3) := by decide +kernel
theorem dX5_rain_28 : decode cX5_rain 28 = .ok (.getfield 103, 3) := by decide +kernel
theorem dX5_rain_31 : decode cX5_rain 31 = .ok (.istore_n 2, 1) := by decide +kernel
theorem dX5_rain_32 : decode cX5_rain 32 = .ok (.aload_n 0, 1) := by decide +kernel
theorem dX5_rain_33 : decode cX5_rain 33 = .ok (.getfield 20, 3) := by decide +kernel
theorem dX5_rain_36 : decode cX5_rain 36 = .ok (.iload_n 1, 1) := by decide +kernel
theorem dX5_rain_37 : decode cX5_rain 37 = .ok (.putfield 103, 3) := by decide +kernel
theorem dX5_rain_40 : decode cX5_rain 40 = .ok (.iload_n 2, 1) := by decide +kernel
theorem dX5_rain_41 : decode cX5_rain 41 = .ok (.ireturn, 1) := by decide +kernel
set_option maxRecDepth 20000 in
theorem ggX5_gates_X0_isNone : GoodIn wsX5_gates wsX0_isNone := goodIn_r _ [6, 7, 58, 59, 60, 61, 62] (by decide +kernel) (by decide +kernel)
set_option maxRecDepth 20000 in
theorem gX5_gates_X0_isNone : GoodIn wsX5_gates (wsV RX5 99 RX0 yX0_isNone wsX0_isNone) := goodIn_app (goodIn_of _ (by decide +kernel)) ggX5_gates_X0_isNone
set_option maxRecDepth 20000 in
theorem ggX5_gates_X0_gatesThatMayBeOpened : GoodIn wsX5_gates wsX0_gatesThatMayBeOpened := goodIn_r _ [11, 12, 13, 14, 5, 15, 7, 16, 17, 18, 19, 20, 21, 22, 23, 24, 25, 26, 27, 28, 29, 30, 31, 32, 33, 34, 35, 36, 37, 38, 39, 40, 41, 42, 43, 44, 45, 46, 47, 48, 49, 50, 58, 59, 60, 61, 62] (by decide +kernel) (by decide +kernel)
set_option maxRecDepth 20000 in
theorem gX5_gates_X0_gatesThatMayBeOpened : GoodIn wsX5_gates (wsV RX5 106 RX0 yX0_gatesThatMayBeOpened wsX0_gatesThatMayBeOpened) := goodIn_app (goodIn_of _ (by decide +kernel)) ggX5_gates_X0_gatesThatMayBeOpened
theorem dX5_gates_0 : decode cX5_gates 0 = .ok (.aload_n 0, 1) := by decide +kernel
theorem dX5_gates_1 : decode cX5_gates 1 = .ok (.getfield 20, 3) := by decide +kernel
theorem dX5_gates_4 : decode cX5_gates 4 = .ok (.invokevirtual 99, 3) := by decide +kernel
theorem dX5_gates_7 : decode cX5_gates 7 = .ok (.ifCond .eq 8, 3) := by decide +kernel
theorem dX5_gates_10 : decode cX5_gates 10 = .ok (.bipush (-3), 2) := by decide +kernel
theorem dX5_gates_12 : decode cX5_gates 12 = .ok (.goto 10, 3) := by decide +kernel
theorem dX5_gates_15 : decode cX5_gates 15 = .ok (.aload_n 0, 1) := by decide +kernel
theorem dX5_gates_16 : decode cX5_gates 16 = .ok (.getfield 20, 3) := by decide +kernel
theorem dX5_gates_19 : decode cX5_gates 19 = .ok (.invokevirtual 106, 3) := by decide +kernel
theorem dX5_gates_22 : decode cX5_gates 22 = .ok (.ireturn, 1) := by decide +kernel
set_option maxRecDepth 20000 in
theorem ggX5_open_X0_hasGate : GoodIn wsX5_open wsX0_hasGate := goodIn_r _ [6, 7, 8, 9, 5, 10, 11, 12, 13, 14, 15, 60, 61, 62, 63, 64] (by decide +kernel) (by decide +kernel)
set_option maxRecDepth 20000 in
theorem gX5_open_X0_hasGate : GoodIn wsX5_open (wsV RX5 110 RX0 yX0_hasGate wsX0_hasGate) := goodIn_app (goodIn_of _ (by decide +kernel)) ggX5_open_X0_hasGate
set_option maxRecDepth 20000 in
theorem ggX5_open_X0_mayBeOpened : GoodIn wsX5_open wsX0_mayBeOpened := goodIn_r _ [19, 20, 3, 4, 5, 6, 7, 8, 9, 10, 11, 12, 13, 14, 15, 21, 22, 23, 24, 25, 26, 27, 28, 29, 30, 31, 32, 33, 34, 35, 36, 37, 38, 39, 40, 41, 42, 43, 60, 61, 62, 63, 64] (by decide +kernel) (by decide +kernel)
set_option maxRecDepth 20000 in
theorem gX5_open_X0_mayBeOpened : GoodIn wsX5_open (wsV RX5 113 RX0 yX0_mayBeOpened wsX0_mayBeOpened) := goodIn_app (goodIn_of _ (by decide +kernel)) ggX5_open_X0_mayBeOpened
set_option maxRecDepth 20000 in
theorem ggX5_open_X0_letThrough : GoodIn wsX5_open wsX0_letThrough := goodIn_r _ [47, 21, 22, 23, 5, 24, 25, 7, 8, 9, 10, 11, 48, 49, 50, 51, 43, 38, 60, 61, 62, 63, 64] (by decide +kernel) (by decide +kernel)
set_option maxRecDepth 20000 in
theorem gX5_open_X0_letThrough : GoodIn wsX5_open (wsV RX5 116 RX0 yX0_letThrough wsX0_letThrough) := goodIn_app (goodIn_of _ (by decide +kernel)) ggX5_open_X0_letThrough
set_option maxRecDepth 20000 in
theorem ggX5_open_X0_levelOf : GoodIn wsX5_open wsX0_levelOf := goodIn_r _ [24, 25, 7, 8, 9, 5, 10, 11, 60, 61, 62, 63, 64] (by decide +kernel) (by decide +kernel)
set_option maxRecDepth 20000 in
theorem gX5_open_X0_levelOf : GoodIn wsX5_open (wsV RX5 82 RX0 yX0_levelOf wsX0_levelOf) := goodIn_app (goodIn_of _ (by decide +kernel)) ggX5_open_X0_levelOf
theorem dX5_open_0 : decode cX5_open 0 = .ok (.aload_n 0, 1) := by decide +kernel
theorem dX5_open_1 : decode cX5_open 1 = .ok (.getfield 20, 3) := by decide +kernel
theorem dX5_open_4 : decode cX5_open 4 = .ok (.iload_n 1, 1) := by decide +kernel
theorem dX5_open_5 : decode cX5_open 5 = .ok (.invokevirtual 110, 3) := by decide +kernel
theorem dX5_open_8 : decode cX5_open 8 = .ok (.ifCond .ne 5, 3) := by decide +kernel
theorem dX5_open_11 : decode cX5_open 11 = .ok (.iconst (-1), 1) := by decide +kernel
theorem dX5_open_12 : decode cX5_open 12 = .ok (.ireturn, 1) := by decide +kernel
theorem dX5_open_13 : decode cX5_open 13 = .ok (.aload_n 0, 1) := by decide +kernel
theorem dX5_open_14 : decode cX5_open 14 = .ok (.getfield 20, 3) := by decide +kernel
theorem dX5_open_17 : decode cX5_open 17 = .ok (.iload_n 1, 1) := by decide +kernel
theorem dX5_open_18 : decode cX5_open 18 = .ok (.invokevirtual 113, 3) := by decide +kernel
theorem dX5_open_21 : decode cX5_open 21 = .ok (.ifCond .ne 6, 3) := by decide +kernel
theorem dX5_open_24 : decode cX5_open 24 = .ok (.bipush (-3), 2) := by decide +kernel
theorem dX5_open_26 : decode cX5_open 26 = .ok (.ireturn, 1) := by decide +kernel
theorem dX5_open_27 : decode cX5_open 27 = .ok (.aload_n 0, 1) := by decide +kernel
theorem dX5_open_28 : decode cX5_open 28 = .ok (.getfield 20, 3) := by decide +kernel
theorem dX5_open_31 : decode cX5_open 31 = .ok (.iload_n 1, 1) := by decide +kernel
theorem dX5_open_32 : decode cX5_open 32 = .ok (.invokevirtual 116, 3) := by decide +kernel
theorem dX5_open_35 : decode cX5_open 35 = .ok (.aload_n 0, 1) := by decide +kernel
theorem dX5_open_36 : decode cX5_open 36 = .ok (.getfield 20, 3) := by decide +kernel
theorem dX5_open_39 : decode cX5_open 39 = .ok (.iload_n 1, 1) := by decide +kernel
theorem dX5_open_40 : decode cX5_open 40 = .ok (.iconst 1, 1) := by decide +kernel
theorem dX5_open_41 : decode cX5_open 41 = .ok (.iadd, 1) := by decide +kernel
theorem dX5_open_42 : decode cX5_open 42 = .ok (.invokevirtual 82, 3) := by decide +kernel
theorem dX5_open_45 : decode cX5_open 45 = .ok (.ireturn, 1) := by decide +kernel
set_option maxRecDepth 20000 in
theorem ggX5_nights_X5_isFrom0To : GoodIn wsX5_nights wsX5_isFrom0To := goodIn_r _ [5] (by decide +kernel) (by decide +kernel)
set_option maxRecDepth 20000 in
theorem gX5_nights_X5_isFrom0To : GoodIn wsX5_nights (va_wsS RX5 91 yX5_isFrom0To wsX5_isFrom0To) := goodIn_app (goodIn_of _ (by decide +kernel)) ggX5_nights_X5_isFrom0To
set_option maxRecDepth 20000 in
theorem ggX5_nights_X0_isNone : GoodIn wsX5_nights wsX0_isNone := goodIn_r _ [10, 11, 51, 52, 53, 54, 55] (by decide +kernel) (by decide +kernel)
set_option maxRecDepth 20000 in
theorem gX5_nights_X0_isNone : GoodIn wsX5_nights (wsV RX5 99 RX0 yX0_isNone wsX0_isNone) := goodIn_app (goodIn_of _ (by decide +kernel)) ggX5_nights_X0_isNone
set_option maxRecDepth 20000 in
theorem ggX5_nights_X0_passNight : GoodIn wsX5_nights wsX0_passNight := goodIn_r _ [15, 16, 17, 18, 19, 20, 21, 22, 23, 24, 25, 26, 9, 27, 28, 29, 30, 31, 32, 11, 33, 34, 35, 36, 37, 38, 39, 40, 41, 42, 51, 52, 53, 54, 55] (by decide +kernel) (by decide +kernel)
set_option maxRecDepth 20000 in
theorem gX5_nights_X0_passNight : GoodIn wsX5_nights (wsV RX5 120 RX0 yX0_passNight wsX0_passNight) := goodIn_app (goodIn_of _ (by decide +kernel)) ggX5_nights_X0_passNight
set_option maxRecDepth 20000 in
theorem ggX5_nights_X0_levelOf : GoodIn wsX5_nights wsX0_levelOf := goodIn_r _ [27, 28, 29, 30, 31, 9, 32, 11, 51, 52, 53, 54, 55] (by decide +kernel) (by decide +kernel)
set_option maxRecDepth 20000 in
theorem gX5_nights_X0_levelOf : GoodIn wsX5_nights (wsV RX5 82 RX0 yX0_levelOf wsX0_levelOf) := goodIn_app (goodIn_of _ (by decide +kernel)) ggX5_nights_X0_levelOf
theorem dX5_nights_0 : decode cX5_nights 0 = .ok (.iload_n 1, 1) := by decide +kernel
theorem dX5_nights_1 : decode cX5_nights 1 = .ok (.bipush 40, 2) := by decide +kernel
theorem dX5_nights_3 : decode cX5_nights 3 = .ok (.invokestatic 91, 3) := by decide +kernel
theorem dX5_nights_6 : decode cX5_nights 6 = .ok (.ifCond .ne 6, 3) := by decide +kernel
theorem dX5_nights_9 : decode cX5_nights 9 = .ok (.bipush (-2), 2) := by decide +kernel
theorem dX5_nights_11 : decode cX5_nights 11 = .ok (.ireturn, 1) := by decide +kernel
theorem dX5_nights_12 : decode cX5_nights 12 = .ok (.aload_n 0, 1) := by decide +kernel
theorem dX5_nights_13 : decode cX5_nights 13 = .ok (.getfield 20, 3) := by decide +kernel
theorem dX5_nights_16 : decode cX5_nights 16 = .ok (.invokevirtual 99, 3) := by decide +kernel
theorem dX5_nights_19 : decode cX5_nights 19 = .ok (.ifCond .eq 6, 3) := by decide +kernel
theorem dX5_nights_22 : decode cX5_nights 22 = .ok (.bipush (-3), 2) := by decide +kernel
theorem dX5_nights_24 : decode cX5_nights 24 = .ok (.ireturn, 1) := by decide +kernel
theorem dX5_nights_25 : decode cX5_nights 25 = .ok (.iconst 0, 1) := by decide +kernel
theorem dX5_nights_26 : decode cX5_nights 26 = .ok (.istore_n 2, 1) := by decide +kernel
theorem dX5_nights_27 : decode cX5_nights 27 = .ok (.iload_n 2, 1) := by decide +kernel
theorem dX5_nights_28 : decode cX5_nights 28 = .ok (.iload_n 1, 1) := by decide +kernel
theorem dX5_nights_29 : decode cX5_nights 29 = .ok (.if_icmp .ge 16, 3) := by decide +kernel
theorem dX5_nights_32 : decode cX5_nights 32 = .ok (.aload_n 0, 1) := by decide +kernel
theorem dX5_nights_33 : decode cX5_nights 33 = .ok (.getfield 20, 3) := by decide +kernel
theorem dX5_nights_36 : decode cX5_nights 36 = .ok (.invokevirtual 120, 3) := by decide +kernel
theorem dX5_nights_39 : decode cX5_nights 39 = .ok (.iinc 2 1, 3) := by decide +kernel
theorem dX5_nights_42 : decode cX5_nights 42 = .ok (.goto (-15), 3) := by decide +kernel
theorem dX5_nights_45 : decode cX5_nights 45 = .ok (.aload_n 0, 1) := by decide +kernel
theorem dX5_nights_46 : decode cX5_nights 46 = .ok (.getfield 20, 3) := by decide +kernel
theorem dX5_nights_49 : decode cX5_nights 49 = .ok (.iconst 0, 1) := by decide +kernel
theorem dX5_nights_50 : decode cX5_nights 50 = .ok (.invokevirtual 82, 3) := by decide +kernel
theorem dX5_nights_53 : decode cX5_nights 53 = .ok (.ireturn, 1) := by decide +kernel
set_option maxRecDepth 20000 in
theorem ggX5_acts_X5_sheetAt : GoodIn wsX5_acts wsX5_sheetAt := goodIn_r _ [8, 9, 133, 134, 135, 136, 137, 138, 139] (by decide +kernel) (by decide +kernel)
set_option maxRecDepth 20000 in
theorem gX5_acts_X5_sheetAt : GoodIn wsX5_acts (wsV RX5 46 RX5 yX5_sheetAt wsX5_sheetAt) := goodIn_app (goodIn_of _ (by decide +kernel)) ggX5_acts_X5_sheetAt
set_option maxRecDepth 20000 in
theorem ggX5_acts_X5_isLane : GoodIn wsX5_acts wsX5_isLane := goodIn_r _ [12] (by decide +kernel) (by decide +kernel)
set_option maxRecDepth 20000 in
theorem gX5_acts_X5_isLane : GoodIn wsX5_acts (va_wsS RX5 50 yX5_isLane wsX5_isLane) := goodIn_app (goodIn_of _ (by decide +kernel)) ggX5_acts_X5_isLane
set_option maxRecDepth 20000 in
theorem ggX5_acts_X5_isFrom0To : GoodIn wsX5_acts wsX5_isFrom0To := goodIn_r _ [15] (by decide +kernel) (by decide +kernel)
set_option maxRecDepth 20000 in
theorem gX5_acts_X5_isFrom0To : GoodIn wsX5_acts (va_wsS RX5 91 yX5_isFrom0To wsX5_isFrom0To) := goodIn_app (goodIn_of _ (by decide +kernel)) ggX5_acts_X5_isFrom0To
set_option maxRecDepth 20000 in
theorem ggX5_acts_X5_isWhatOfActs : GoodIn wsX5_acts wsX5_isWhatOfActs := goodIn_r _ [18, 13, 14, 7, 15] (by decide +kernel) (by decide +kernel)
set_option maxRecDepth 20000 in
theorem gX5_acts_X5_isWhatOfActs : GoodIn wsX5_acts (va_wsS RX5 123 yX5_isWhatOfActs wsX5_isWhatOfActs) := goodIn_app (goodIn_of _ (by decide +kernel)) ggX5_acts_X5_isWhatOfActs
set_option maxRecDepth 20000 in
theorem ggX5_acts_X0_isNone : GoodIn wsX5_acts wsX0_isNone := goodIn_r _ [23, 24, 140, 141, 142, 143, 144] (by decide +kernel) (by decide +kernel)
set_option maxRecDepth 20000 in
theorem gX5_acts_X0_isNone : GoodIn wsX5_acts (wsV RX5 99 RX0 yX0_isNone wsX0_isNone) := goodIn_app (goodIn_of _ (by decide +kernel)) ggX5_acts_X0_isNone
set_option maxRecDepth 20000 in
theorem ggX5_acts_X3_faultOf : GoodIn wsX5_acts wsX3_faultOf := goodIn_r _ [29, 30, 31, 32, 33, 34, 28, 35, 36, 37, 145, 146, 147, 148] (by decide +kernel) (by decide +kernel)
set_option maxRecDepth 20000 in
theorem gX5_acts_X3_faultOf : GoodIn wsX5_acts (wsV RX5 54 RX3 yX3_faultOf wsX3_faultOf) := goodIn_app (goodIn_of _ (by decide +kernel)) ggX5_acts_X3_faultOf
set_option maxRecDepth 20000 in
theorem ggX5_acts_X5_faulted : GoodIn wsX5_acts wsX5_faulted := goodIn_r _ [41, 1, 133, 134, 135, 136, 137, 138, 139] (by decide +kernel) (by decide +kernel)
set_option maxRecDepth 20000 in
theorem gX5_acts_X5_faulted : GoodIn wsX5_acts (wsV RX5 58 RX5 yX5_faulted wsX5_faulted) := goodIn_app (goodIn_of _ (by decide +kernel)) ggX5_acts_X5_faulted
set_option maxRecDepth 20000 in
theorem ggX5_acts_X5_areActs : GoodIn wsX5_acts wsX5_areActs := goodIn_r _ [45, 2, 46, 47, 48, 28, 49, 36, 37, 50, 51, 52, 22, 53, 24, 13, 14, 7, 15, 133, 134, 135, 136, 137, 138, 139, 145, 146, 147, 148, 140, 141, 142, 143, 144] (by decide +kernel) (by decide +kernel)
set_option maxRecDepth 20000 in
theorem gX5_acts_X5_areActs : GoodIn wsX5_acts (wsV RX5 126 RX5 yX5_areActs wsX5_areActs) := goodIn_app (goodIn_of _ (by decide +kernel)) ggX5_acts_X5_areActs
set_option maxRecDepth 20000 in
theorem ggX5_acts_X0_takeOver : GoodIn wsX5_acts wsX0_takeOver := goodIn_r _ [57, 24, 58, 59, 60, 61, 22, 62, 63, 64, 65, 66, 67, 68, 69, 70, 71, 72, 73, 74, 75, 76, 77, 78, 79, 80, 81, 140, 141, 142, 143, 144] (by decide +kernel) (by decide +kernel)
set_option maxRecDepth 20000 in
theorem gX5_acts_X0_takeOver : GoodIn wsX5_acts (wsV RX5 130 RX0 yX0_takeOver wsX0_takeOver) := goodIn_app (goodIn_of _ (by decide +kernel)) ggX5_acts_X0_takeOver
set_option maxRecDepth 20000 in
theorem ggX5_acts_X5_actOnTrial : GoodIn wsX5_acts wsX5_actOnTrial := goodIn_r _ [85, 3, 46, 47, 48, 28, 49, 36, 37, 50, 51, 52, 22, 53, 24, 86, 87, 88, 89, 58, 90, 91, 92, 93, 94, 95, 96, 74, 75, 76, 77, 72, 64, 65, 66, 67, 68, 69, 70, 71, 63, 73, 97, 98, 99, 100, 101, 102, 103, 104, 105, 106, 107, 108, 109, 78, 79, 80, 81, 59, 60, 61, 62, 110, 111, 112, 113, 133, 134, 135, 136, 137, 138, 139, 145, 146, 147, 148, 140, 141, 142, 143, 144] (by decide +kernel) (by decide +kernel)
set_option maxRecDepth 20000 in
theorem gX5_acts_X5_actOnTrial : GoodIn wsX5_acts (wsV RX5 134 RX5 yX5_actOnTrial wsX5_actOnTrial) := goodIn_app (goodIn_of _ (by decide +kernel)) ggX5_acts_X5_actOnTrial
set_option maxRecDepth 20000 in
theorem ggX5_acts_X5_behindActs : GoodIn wsX5_acts wsX5_behindActs := goodIn_r _ [117, 3, 118, 119, 120, 22, 121, 24, 74, 75, 76, 77, 72, 64, 65, 66, 67, 122, 123, 124, 7, 125, 2, 46, 47, 48, 28, 49, 36, 37, 50, 51, 52, 53, 126, 127, 128, 129, 97, 130, 99, 100, 101, 102, 103, 104, 105, 106, 107, 108, 109, 94, 95, 92, 96, 78, 79, 80, 81, 73, 59, 60, 61, 62, 63, 131, 132, 133, 134, 135, 136, 137, 138, 139, 140, 141, 142, 143, 144, 145, 146, 147, 148] (by decide +kernel) (by decide +kernel)
set_option maxRecDepth 20000 in
theorem gX5_acts_X5_behindActs : GoodIn wsX5_acts (wsV RX5 137 RX5 yX5_behindActs wsX5_behindActs) := goodIn_app (goodIn_of _ (by decide +kernel)) ggX5_acts_X5_behindActs
theorem dX5_acts_0 : decode cX5_acts 0 = .ok (.aload_n 0, 1) := by decide +kernel
theorem dX5_acts_1 : decode cX5_acts 1 = .ok (.iconst 0, 1) := by decide +kernel
theorem dX5_acts_2 : decode cX5_acts 2 = .ok (.putfield 42, 3) := by decide +kernel
theorem dX5_acts_5 : decode cX5_acts 5 = .ok (.aload_n 0, 1) := by decide +kernel
theorem dX5_acts_6 : decode cX5_acts 6 = .ok (.iload_n 1, 1) := by decide +kernel
theorem dX5_acts_7 : decode cX5_acts 7 = .ok (.invokevirtual 46, 3) := by decide +kernel
theorem dX5_acts_10 : decode cX5_acts 10 = .ok (.astore 6, 2) := by decide +kernel
theorem dX5_acts_12 : decode cX5_acts 12 = .ok (.aload 6, 2) := by decide +kernel
theorem dX5_acts_14 : decode cX5_acts 14 = .ok (.ifnonnull 5, 3) := by decide +kernel
theorem dX5_acts_17 : decode cX5_acts 17 = .ok (.iconst (-1), 1) := by decide +kernel
theorem dX5_acts_18 : decode cX5_acts 18 = .ok (.ireturn, 1) := by decide +kernel
theorem dX5_acts_19 : decode cX5_acts 19 = .ok (.iload_n 2, 1) := by decide +kernel
theorem dX5_acts_20 : decode cX5_acts 20 = .ok (.invokestatic 50, 3) := by decide +kernel
theorem dX5_acts_23 : decode cX5_acts 23 = .ok (.ifCond .eq 21, 3) := by decide +kernel
theorem dX5_acts_26 : decode cX5_acts 26 = .ok (.iload 4, 2) := by decide +kernel
theorem dX5_acts_28 : decode cX5_acts 28 = .ok (.bipush 40, 2) := by decide +kernel
theorem dX5_acts_30 : decode cX5_acts 30 = .ok (.invokestatic 91, 3) := by decide +kernel
theorem dX5_acts_33 : decode cX5_acts 33 = .ok (.ifCond .eq 11, 3) := by decide +kernel
theorem dX5_acts_36 : decode cX5_acts 36 = .ok (.iload 5, 2) := by decide +kernel
theorem dX5_acts_38 : decode cX5_acts 38 = .ok (.invokestatic 123, 3) := by decide +kernel
theorem dX5_acts_41 : decode cX5_acts 41 = .ok (.ifCond .ne 6, 3) := by decide +kernel
theorem dX5_acts_44 : decode cX5_acts 44 = .ok (.bipush (-2), 2) := by decide +kernel
theorem dX5_acts_46 : decode cX5_acts 46 = .ok (.ireturn, 1) := by decide +kernel
theorem dX5_acts_47 : decode cX5_acts 47 = .ok (.aload_n 0, 1) := by decide +kernel
theorem dX5_acts_48 : decode cX5_acts 48 = .ok (.getfield 20, 3) := by decide +kernel
theorem dX5_acts_51 : decode cX5_acts 51 = .ok (.invokevirtual 99, 3) := by decide +kernel
theorem dX5_acts_54 : decode cX5_acts 54 = .ok (.ifCond .eq 6, 3) := by decide +kernel
theorem dX5_acts_57 : decode cX5_acts 57 = .ok (.bipush (-3), 2) := by decide +kernel
theorem dX5_acts_59 : decode cX5_acts 59 = .ok (.ireturn, 1) := by decide +kernel
theorem dX5_acts_60 : decode cX5_acts 60 = .ok (.aload 6, 2) := by decide +kernel
theorem dX5_acts_62 : decode cX5_acts 62 = .ok (.iload_n 2, 1) := by decide +kernel
theorem dX5_acts_63 : decode cX5_acts 63 = .ok (.iload_n 3, 1) := by decide +kernel
theorem dX5_acts_64 : decode cX5_acts 64 = .ok (.iload 4, 2) := by decide +kernel
theorem dX5_acts_66 : decode cX5_acts 66 = .ok (.invokevirtual 54, 3) := by decide +kernel
theorem dX5_acts_69 : decode cX5_acts 69 = .ok (.istore 7, 2) := by decide +kernel
theorem dX5_acts_71 : decode cX5_acts 71 = .ok (.iload 7, 2) := by decide +kernel
theorem dX5_acts_73 : decode cX5_acts 73 = .ok (.ifCond .eq 10, 3) := by decide +kernel
theorem dX5_acts_76 : decode cX5_acts 76 = .ok (.aload_n 0, 1) := by decide +kernel
theorem dX5_acts_77 : decode cX5_acts 77 = .ok (.iload 7, 2) := by decide +kernel
theorem dX5_acts_79 : decode cX5_acts 79 = .ok (.invokevirtual 58, 3) := by decide +kernel
theorem dX5_acts_82 : decode cX5_acts 82 = .ok (.ireturn, 1) := by decide +kernel
theorem dX5_acts_83 : decode cX5_acts 83 = .ok (.aload_n 0, 1) := by decide +kernel
theorem dX5_acts_84 : decode cX5_acts 84 = .ok (.aload 6, 2) := by decide +kernel
theorem dX5_acts_86 : decode cX5_acts 86 = .ok (.iload_n 3, 1) := by decide +kernel
theorem dX5_acts_87 : decode cX5_acts 87 = .ok (.iload 4, 2) := by decide +kernel
theorem dX5_acts_89 : decode cX5_acts 89 = .ok (.invokevirtual 126, 3) := by decide +kernel
theorem dX5_acts_92 : decode cX5_acts 92 = .ok (.ifCond .ne 6, 3) := by decide +kernel
theorem dX5_acts_95 : decode cX5_acts 95 = .ok (.bipush (-2), 2) := by decide +kernel
theorem dX5_acts_97 : decode cX5_acts 97 = .ok (.ireturn, 1) := by decide +kernel
theorem dX5_acts_98 : decode cX5_acts 98 = .ok (.aload_n 0, 1) := by decide +kernel
theorem dX5_acts_99 : decode cX5_acts 99 = .ok (.getfield 24, 3) := by decide +kernel
theorem dX5_acts_102 : decode cX5_acts 102 = .ok (.aload_n 0, 1) := by decide +kernel
theorem dX5_acts_103 : decode cX5_acts 103 = .ok (.getfield 20, 3) := by decide +kernel
theorem dX5_acts_106 : decode cX5_acts 106 = .ok (.invokevirtual 130, 3) := by decide +kernel
theorem dX5_acts_109 : decode cX5_acts 109 = .ok (.aload_n 0, 1) := by decide +kernel
theorem dX5_acts_110 : decode cX5_acts 110 = .ok (.aload 6, 2) := by decide +kernel
theorem dX5_acts_112 : decode cX5_acts 112 = .ok (.iload_n 3, 1) := by decide +kernel
theorem dX5_acts_113 : decode cX5_acts 113 = .ok (.iload 4, 2) := by decide +kernel
theorem dX5_acts_115 : decode cX5_acts 115 = .ok (.invokevirtual 134, 3) := by decide +kernel
theorem dX5_acts_118 : decode cX5_acts 118 = .ok (.istore 8, 2) := by decide +kernel
theorem dX5_acts_120 : decode cX5_acts 120 = .ok (.iload 5, 2) := by decide +kernel
theorem dX5_acts_122 : decode cX5_acts 122 = .ok (.iconst 1, 1) := by decide +kernel
theorem dX5_acts_123 : decode cX5_acts 123 = .ok (.if_icmp .ne 6, 3) := by decide +kernel
theorem dX5_acts_126 : decode cX5_acts 126 = .ok (.iload 8, 2) := by decide +kernel
theorem dX5_acts_128 : decode cX5_acts 128 = .ok (.ireturn, 1) := by decide +kernel
theorem dX5_acts_129 : decode cX5_acts 129 = .ok (.iload 8, 2) := by decide +kernel
theorem dX5_acts_131 : decode cX5_acts 131 = .ok (.bipush (-9), 2) := by decide +kernel
theorem dX5_acts_133 : decode cX5_acts 133 = .ok (.if_icmp .ne 17, 3) := by decide +kernel
theorem dX5_acts_136 : decode cX5_acts 136 = .ok (.aload_n 0, 1) := by decide +kernel
theorem dX5_acts_137 : decode cX5_acts 137 = .ok (.aload 6, 2) := by decide +kernel
theorem dX5_acts_139 : decode cX5_acts 139 = .ok (.iload_n 3, 1) := by decide +kernel
theorem dX5_acts_140 : decode cX5_acts 140 = .ok (.iload 4, 2) := by decide +kernel
theorem dX5_acts_142 : decode cX5_acts 142 = .ok (.iload 5, 2) := by decide +kernel
theorem dX5_acts_144 : decode cX5_acts 144 = .ok (.invokevirtual 137, 3) := by decide +kernel
theorem dX5_acts_147 : decode cX5_acts 147 = .ok (.goto 8, 3) := by decide +kernel
theorem dX5_acts_150 : decode cX5_acts 150 = .ok (.bipush (-100), 2) := by decide +kernel
theorem dX5_acts_152 : decode cX5_acts 152 = .ok (.iload 8, 2) := by decide +kernel
theorem dX5_acts_154 : decode cX5_acts 154 = .ok (.isub, 1) := by decide +kernel
theorem dX5_acts_155 : decode cX5_acts 155 = .ok (.ireturn, 1) := by decide +kernel
set_option maxRecDepth 20000 in
theorem ggX5_isWhatOfActs_X5_isFrom0To : GoodIn wsX5_isWhatOfActs wsX5_isFrom0To := goodIn_r _ [4] (by decide +kernel) (by decide +kernel)
set_option maxRecDepth 20000 in
theorem gX5_isWhatOfActs_X5_isFrom0To : GoodIn wsX5_isWhatOfActs (va_wsS RX5 91 yX5_isFrom0To wsX5_isFrom0To) := goodIn_app (goodIn_of _ (by decide +kernel)) ggX5_isWhatOfActs_X5_isFrom0To
theorem dX5_isWhatOfActs_0 : decode cX5_isWhatOfActs 0 = .ok (.iload_n 0, 1) := by decide +kernel
theorem dX5_isWhatOfActs_1 : decode cX5_isWhatOfActs 1 = .ok (.iconst 3, 1) := by decide +kernel
theorem dX5_isWhatOfActs_2 : decode cX5_isWhatOfActs 2 = .ok (.invokestatic 91, 3) := by decide +kernel
theorem dX5_isWhatOfActs_5 : decode cX5_isWhatOfActs 5 = .ok (.ifCond .ne 15, 3) := by decide +kernel
theorem dX5_isWhatOfActs_8 : decode cX5_isWhatOfActs 8 = .ok (.iload_n 0, 1) := by decide +kernel
theorem dX5_isWhatOfActs_9 : decode cX5_isWhatOfActs 9 = .ok (.bipush 10, 2) := by decide +kernel
theorem dX5_isWhatOfActs_11 : decode cX5_isWhatOfActs 11 = .ok (.if_icmp .lt 13, 3) := by decide +kernel
theorem dX5_isWhatOfActs_14 : decode cX5_isWhatOfActs 14 = .ok (.iload_n 0, 1) := by decide +kernel
theorem dX5_isWhatOfActs_15 : decode cX5_isWhatOfActs 15 = .ok (.bipush 14, 2) := by decide +kernel
theorem dX5_isWhatOfActs_17 : decode cX5_isWhatOfActs 17 = .ok (.if_icmp .ge 7, 3) := by decide +kernel
theorem dX5_isWhatOfActs_20 : decode cX5_isWhatOfActs 20 = .ok (.iconst 1, 1) := by decide +kernel
theorem dX5_isWhatOfActs_21 : decode cX5_isWhatOfActs 21 = .ok (.goto 4, 3) := by decide +kernel
theorem dX5_isWhatOfActs_24 : decode cX5_isWhatOfActs 24 = .ok (.iconst 0, 1) := by decide +kernel
theorem dX5_isWhatOfActs_25 : decode cX5_isWhatOfActs 25 = .ok (.ireturn, 1) := by decide +kernel
set_option maxRecDepth 20000 in
theorem ggX5_areActs_X3_cellAt : GoodIn wsX5_areActs wsX3_cellAt := goodIn_r _ [6, 7, 8, 26, 27, 28, 29] (by decide +kernel) (by decide +kernel)
set_option maxRecDepth 20000 in
theorem gX5_areActs_X3_cellAt : GoodIn wsX5_areActs (wsV RX5 141 RX3 yX3_cellAt wsX3_cellAt) := goodIn_app (goodIn_of _ (by decide +kernel)) ggX5_areActs_X3_cellAt
set_option maxRecDepth 20000 in
theorem ggX5_areActs_X0_lastReach : GoodIn wsX5_areActs wsX0_lastReach := goodIn_r _ [13, 14, 30, 31, 32, 33, 34] (by decide +kernel) (by decide +kernel)
set_option maxRecDepth 20000 in
theorem gX5_areActs_X0_lastReach : GoodIn wsX5_areActs (wsV RX5 144 RX0 yX0_lastReach wsX0_lastReach) := goodIn_app (goodIn_of _ (by decide +kernel)) ggX5_areActs_X0_lastReach
set_option maxRecDepth 20000 in
theorem ggX5_areActs_X5_isFrom0To : GoodIn wsX5_areActs wsX5_isFrom0To := goodIn_r _ [18] (by decide +kernel) (by decide +kernel)
set_option maxRecDepth 20000 in
theorem gX5_areActs_X5_isFrom0To : GoodIn wsX5_areActs (va_wsS RX5 91 yX5_isFrom0To wsX5_isFrom0To) := goodIn_app (goodIn_of _ (by decide +kernel)) ggX5_areActs_X5_isFrom0To
theorem dX5_areActs_0 : decode cX5_areActs 0 = .ok (.iconst 0, 1) := by decide +kernel
theorem dX5_areActs_1 : decode cX5_areActs 1 = .ok (.istore 4, 2) := by decide +kernel
theorem dX5_areActs_3 : decode cX5_areActs 3 = .ok (.iload 4, 2) := by decide +kernel
theorem dX5_areActs_5 : decode cX5_areActs 5 = .ok (.iload_n 3, 1) := by decide +kernel
theorem dX5_areActs_6 : decode cX5_areActs 6 = .ok (.if_icmp .ge 32, 3) := by decide +kernel
theorem dX5_areActs_9 : decode cX5_areActs 9 = .ok (.aload_n 1, 1) := by decide +kernel
theorem dX5_areActs_10 : decode cX5_areActs 10 = .ok (.iload_n 2, 1) := by decide +kernel
theorem dX5_areActs_11 : decode cX5_areActs 11 = .ok (.iload 4, 2) := by decide +kernel
theorem dX5_areActs_13 : decode cX5_areActs 13 = .ok (.iadd, 1) := by decide +kernel
theorem dX5_areActs_14 : decode cX5_areActs 14 = .ok (.invokevirtual 141, 3) := by decide +kernel
theorem dX5_areActs_17 : decode cX5_areActs 17 = .ok (.aload_n 0, 1) := by decide +kernel
theorem dX5_areActs_18 : decode cX5_areActs 18 = .ok (.getfield 20, 3) := by decide +kernel
theorem dX5_areActs_21 : decode cX5_areActs 21 = .ok (.invokevirtual 144, 3) := by decide +kernel
theorem dX5_areActs_24 : decode cX5_areActs 24 = .ok (.invokestatic 91, 3) := by decide +kernel
theorem dX5_areActs_27 : decode cX5_areActs 27 = .ok (.ifCond .ne 5, 3) := by decide +kernel
theorem dX5_areActs_30 : decode cX5_areActs 30 = .ok (.iconst 0, 1) := by decide +kernel
theorem dX5_areActs_31 : decode cX5_areActs 31 = .ok (.ireturn, 1) := by decide +kernel
theorem dX5_areActs_32 : decode cX5_areActs 32 = .ok (.iinc 4 1, 3) := by decide +kernel
theorem dX5_areActs_35 : decode cX5_areActs 35 = .ok (.goto (-32), 3) := by decide +kernel
theorem dX5_areActs_38 : decode cX5_areActs 38 = .ok (.iconst 1, 1) := by decide +kernel
theorem dX5_areActs_39 : decode cX5_areActs 39 = .ok (.ireturn, 1) := by decide +kernel
set_option maxRecDepth 20000 in
theorem ggX5_actOnTrial_X3_cellAt : GoodIn wsX5_actOnTrial wsX3_cellAt := goodIn_r _ [6, 7, 8, 74, 75, 76, 77] (by decide +kernel) (by decide +kernel)
set_option maxRecDepth 20000 in
theorem gX5_actOnTrial_X3_cellAt : GoodIn wsX5_actOnTrial (wsV RX5 141 RX3 yX3_cellAt wsX3_cellAt) := goodIn_app (goodIn_of _ (by decide +kernel)) ggX5_actOnTrial_X3_cellAt
set_option maxRecDepth 20000 in
theorem ggX5_actOnTrial_X0_lastReach : GoodIn wsX5_actOnTrial wsX0_lastReach := goodIn_r _ [13, 14, 78, 79, 80, 81, 82] (by decide +kernel) (by decide +kernel)
set_option maxRecDepth 20000 in
theorem gX5_actOnTrial_X0_lastReach : GoodIn wsX5_actOnTrial (wsV RX5 144 RX0 yX0_lastReach wsX0_lastReach) := goodIn_app (goodIn_of _ (by decide +kernel)) ggX5_actOnTrial_X0_lastReach
set_option maxRecDepth 20000 in
theorem ggX5_actOnTrial_X0_passNight : GoodIn wsX5_actOnTrial wsX0_passNight := goodIn_r _ [18, 19, 20, 21, 22, 23, 24, 25, 26, 27, 28, 29, 12, 30, 31, 32, 33, 34, 35, 14, 36, 37, 38, 39, 40, 41, 42, 10, 11, 13, 78, 79, 80, 81, 82] (by decide +kernel) (by decide +kernel)
set_option maxRecDepth 20000 in
theorem gX5_actOnTrial_X0_passNight : GoodIn wsX5_actOnTrial (wsV RX5 120 RX0 yX0_passNight wsX0_passNight) := goodIn_app (goodIn_of _ (by decide +kernel)) ggX5_actOnTrial_X0_passNight
set_option maxRecDepth 20000 in
theorem ggX5_actOnTrial_X0_mayBeOpened : GoodIn wsX5_actOnTrial wsX0_mayBeOpened := goodIn_r _ [46, 47, 48, 49, 12, 50, 32, 33, 34, 35, 14, 42, 10, 11, 13, 27, 28, 29, 30, 31, 51, 52, 53, 54, 24, 25, 22, 26, 55, 56, 57, 58, 41, 59, 60, 61, 62, 40, 78, 79, 80, 81, 82] (by decide +kernel) (by decide +kernel)
set_option maxRecDepth 20000 in
theorem gX5_actOnTrial_X0_mayBeOpened : GoodIn wsX5_actOnTrial (wsV RX5 113 RX0 yX0_mayBeOpened wsX0_mayBeOpened) := goodIn_app (goodIn_of _ (by decide +kernel)) ggX5_actOnTrial_X0_mayBeOpened
set_option maxRecDepth 20000 in
theorem ggX5_actOnTrial_X0_letThrough : GoodIn wsX5_actOnTrial wsX0_letThrough := goodIn_r _ [66, 27, 28, 29, 12, 30, 31, 32, 33, 34, 35, 14, 36, 37, 38, 39, 40, 41, 78, 79, 80, 81, 82] (by decide +kernel) (by decide +kernel)
set_option maxRecDepth 20000 in
theorem gX5_actOnTrial_X0_letThrough : GoodIn wsX5_actOnTrial (wsV RX5 116 RX0 yX0_letThrough wsX0_letThrough) := goodIn_app (goodIn_of _ (by decide +kernel)) ggX5_actOnTrial_X0_letThrough
theorem dX5_actOnTrial_0 : decode cX5_actOnTrial 0 = .ok (.iconst 0, 1) := by decide +kernel
theorem dX5_actOnTrial_1 : decode cX5_actOnTrial 1 = .ok (.istore 4, 2) := by decide +kernel
theorem dX5_actOnTrial_3 : decode cX5_actOnTrial 3 = .ok (.iload 4, 2) := by decide +kernel
theorem dX5_actOnTrial_5 : decode cX5_actOnTrial 5 = .ok (.iload_n 3, 1) := by decide +kernel
theorem dX5_actOnTrial_6 : decode cX5_actOnTrial 6 = .ok (.if_icmp .ge 68, 3) := by decide +kernel
theorem dX5_actOnTrial_9 : decode cX5_actOnTrial 9 = .ok (.aload_n 1, 1) := by decide +kernel
theorem dX5_actOnTrial_10 : decode cX5_actOnTrial 10 = .ok (.iload_n 2, 1) := by decide +kernel
theorem dX5_actOnTrial_11 : decode cX5_actOnTrial 11 = .ok (.iload 4, 2) := by decide +kernel
theorem dX5_actOnTrial_13 : decode cX5_actOnTrial 13 = .ok (.iadd, 1) := by decide +kernel
theorem dX5_actOnTrial_14 : decode cX5_actOnTrial 14 = .ok (.invokevirtual 141, 3) := by decide +kernel
theorem dX5_actOnTrial_17 : decode cX5_actOnTrial 17 = .ok (.istore 5, 2) := by decide +kernel
theorem dX5_actOnTrial_19 : decode cX5_actOnTrial 19 = .ok (.iload 5, 2) := by decide +kernel
theorem dX5_actOnTrial_21 : decode cX5_actOnTrial 21 = .ok (.aload_n 0, 1) := by decide +kernel
theorem dX5_actOnTrial_22 : decode cX5_actOnTrial 22 = .ok (.getfield 24, 3) := by decide +kernel
theorem dX5_actOnTrial_25 : decode cX5_actOnTrial 25 = .ok (.invokevirtual 144, 3) := by decide +kernel
theorem dX5_actOnTrial_28 : decode cX5_actOnTrial 28 = .ok (.if_icmp .ne 13, 3) := by decide +kernel
theorem dX5_actOnTrial_31 : decode cX5_actOnTrial 31 = .ok (.aload_n 0, 1) := by decide +kernel
theorem dX5_actOnTrial_32 : decode cX5_actOnTrial 32 = .ok (.getfield 24, 3) := by decide +kernel
theorem dX5_actOnTrial_35 : decode cX5_actOnTrial 35 = .ok (.invokevirtual 120, 3) := by decide +kernel
theorem dX5_actOnTrial_38 : decode cX5_actOnTrial 38 = .ok (.goto 30, 3) := by decide +kernel
theorem dX5_actOnTrial_41 : decode cX5_actOnTrial 41 = .ok (.aload_n 0, 1) := by decide +kernel
theorem dX5_actOnTrial_42 : decode cX5_actOnTrial 42 = .ok (.getfield 24, 3) := by decide +kernel
theorem dX5_actOnTrial_45 : decode cX5_actOnTrial 45 = .ok (.iload 5, 2) := by decide +kernel
theorem dX5_actOnTrial_47 : decode cX5_actOnTrial 47 = .ok (.invokevirtual 113, 3) := by decide +kernel
theorem dX5_actOnTrial_50 : decode cX5_actOnTrial 50 = .ok (.ifCond .eq 15, 3) := by decide +kernel
theorem dX5_actOnTrial_53 : decode cX5_actOnTrial 53 = .ok (.aload_n 0, 1) := by decide +kernel
theorem dX5_actOnTrial_54 : decode cX5_actOnTrial 54 = .ok (.getfield 24, 3) := by decide +kernel
theorem dX5_actOnTrial_57 : decode cX5_actOnTrial 57 = .ok (.iload 5, 2) := by decide +kernel
theorem dX5_actOnTrial_59 : decode cX5_actOnTrial 59 = .ok (.invokevirtual 116, 3) := by decide +kernel
theorem dX5_actOnTrial_62 : decode cX5_actOnTrial 62 = .ok (.goto 6, 3) := by decide +kernel
theorem dX5_actOnTrial_65 : decode cX5_actOnTrial 65 = .ok (.iload 4, 2) := by decide +kernel
theorem dX5_actOnTrial_67 : decode cX5_actOnTrial 67 = .ok (.ireturn, 1) := by decide +kernel
theorem dX5_actOnTrial_68 : decode cX5_actOnTrial 68 = .ok (.iinc 4 1, 3) := by decide +kernel
theorem dX5_actOnTrial_71 : decode cX5_actOnTrial 71 = .ok (.goto (-68), 3) := by decide +kernel
theorem dX5_actOnTrial_74 : decode cX5_actOnTrial 74 = .ok (.bipush (-9), 2) := by decide +kernel
theorem dX5_actOnTrial_76 : decode cX5_actOnTrial 76 = .ok (.ireturn, 1) := by decide +kernel
set_option maxRecDepth 20000 in
theorem ggX5_behindActs_X0_levelsTogether : GoodIn wsX5_behindActs wsX0_levelsTogether := goodIn_r _ [6, 7, 8, 9, 10, 5, 11, 12, 13, 14, 15, 16, 74, 75, 76, 77, 78] (by decide +kernel) (by decide +kernel)
set_option maxRecDepth 20000 in
theorem gX5_behindActs_X0_levelsTogether : GoodIn wsX5_behindActs (wsV RX5 147 RX0 yX0_levelsTogether wsX0_levelsTogether) := goodIn_app (goodIn_of _ (by decide +kernel)) ggX5_behindActs_X0_levelsTogether
set_option maxRecDepth 20000 in
theorem ggX5_behindActs_X5_openingsAmong : GoodIn wsX5_behindActs wsX5_openingsAmong := goodIn_r _ [21, 22, 23, 24, 25, 26, 27, 28, 29, 30, 31, 32, 5, 33, 7, 67, 68, 69, 70, 71, 72, 73, 79, 80, 81, 82, 74, 75, 76, 77, 78] (by decide +kernel) (by decide +kernel)
set_option maxRecDepth 20000 in
theorem gX5_behindActs_X5_openingsAmong : GoodIn wsX5_behindActs (wsV RX5 150 RX5 yX5_openingsAmong wsX5_openingsAmong) := goodIn_app (goodIn_of _ (by decide +kernel)) ggX5_behindActs_X5_openingsAmong
set_option maxRecDepth 20000 in
theorem ggX5_behindActs_X0_gatesThatMayBeOpened : GoodIn wsX5_behindActs wsX0_gatesThatMayBeOpened := goodIn_r _ [37, 38, 31, 32, 5, 33, 7, 39, 40, 41, 42, 43, 44, 45, 46, 13, 14, 15, 16, 8, 9, 10, 11, 12, 47, 48, 49, 50, 51, 52, 53, 54, 55, 56, 57, 58, 59, 60, 61, 62, 63, 64, 74, 75, 76, 77, 78] (by decide +kernel) (by decide +kernel)
set_option maxRecDepth 20000 in
theorem gX5_behindActs_X0_gatesThatMayBeOpened : GoodIn wsX5_behindActs (wsV RX5 106 RX0 yX0_gatesThatMayBeOpened wsX0_gatesThatMayBeOpened) := goodIn_app (goodIn_of _ (by decide +kernel)) ggX5_behindActs_X0_gatesThatMayBeOpened
set_option maxRecDepth 20000 in
theorem ggX5_behindActs_X0_has : GoodIn wsX5_behindActs wsX0_has := goodIn_r _ [16, 7, 74, 75, 76, 77, 78] (by decide +kernel) (by decide +kernel)
set_option maxRecDepth 20000 in
theorem gX5_behindActs_X0_has : GoodIn wsX5_behindActs (wsV RX5 76 RX0 yX0_has wsX0_has) := goodIn_app (goodIn_of _ (by decide +kernel)) ggX5_behindActs_X0_has
set_option maxRecDepth 20000 in
theorem ggX5_behindActs_X0_levelOf : GoodIn wsX5_behindActs wsX0_levelOf := goodIn_r _ [11, 12, 13, 14, 15, 5, 16, 7, 74, 75, 76, 77, 78] (by decide +kernel) (by decide +kernel)
set_option maxRecDepth 20000 in
theorem gX5_behindActs_X0_levelOf : GoodIn wsX5_behindActs (wsV RX5 82 RX0 yX0_levelOf wsX0_levelOf) := goodIn_app (goodIn_of _ (by decide +kernel)) ggX5_behindActs_X0_levelOf
theorem dX5_behindActs_0 : decode cX5_behindActs 0 = .ok (.iload 4, 2) := by decide +kernel
theorem dX5_behindActs_2 : decode cX5_behindActs 2 = .ok (.tableswitch 54 0 3 #[30, 54, 38, 46], 30) := by decide +kernel
theorem dX5_behindActs_32 : decode cX5_behindActs 32 = .ok (.aload_n 0, 1) := by decide +kernel
theorem dX5_behindActs_33 : decode cX5_behindActs 33 = .ok (.getfield 24, 3) := by decide +kernel
theorem dX5_behindActs_36 : decode cX5_behindActs 36 = .ok (.invokevirtual 147, 3) := by decide +kernel
theorem dX5_behindActs_39 : decode cX5_behindActs 39 = .ok (.ireturn, 1) := by decide +kernel
theorem dX5_behindActs_40 : decode cX5_behindActs 40 = .ok (.aload_n 0, 1) := by decide +kernel
theorem dX5_behindActs_41 : decode cX5_behindActs 41 = .ok (.aload_n 1, 1) := by decide +kernel
theorem dX5_behindActs_42 : decode cX5_behindActs 42 = .ok (.iload_n 2, 1) := by decide +kernel
theorem dX5_behindActs_43 : decode cX5_behindActs 43 = .ok (.iload_n 3, 1) := by decide +kernel
theorem dX5_behindActs_44 : decode cX5_behindActs 44 = .ok (.invokevirtual 150, 3) := by decide +kernel
theorem dX5_behindActs_47 : decode cX5_behindActs 47 = .ok (.ireturn, 1) := by decide +kernel
theorem dX5_behindActs_48 : decode cX5_behindActs 48 = .ok (.aload_n 0, 1) := by decide +kernel
theorem dX5_behindActs_49 : decode cX5_behindActs 49 = .ok (.getfield 24, 3) := by decide +kernel
theorem dX5_behindActs_52 : decode cX5_behindActs 52 = .ok (.invokevirtual 106, 3) := by decide +kernel
theorem dX5_behindActs_55 : decode cX5_behindActs 55 = .ok (.ireturn, 1) := by decide +kernel
theorem dX5_behindActs_56 : decode cX5_behindActs 56 = .ok (.aload_n 0, 1) := by decide +kernel
theorem dX5_behindActs_57 : decode cX5_behindActs 57 = .ok (.getfield 24, 3) := by decide +kernel
theorem dX5_behindActs_60 : decode cX5_behindActs 60 = .ok (.iload 4, 2) := by decide +kernel
theorem dX5_behindActs_62 : decode cX5_behindActs 62 = .ok (.bipush 10, 2) := by decide +kernel
theorem dX5_behindActs_64 : decode cX5_behindActs 64 = .ok (.isub, 1) := by decide +kernel
theorem dX5_behindActs_65 : decode cX5_behindActs 65 = .ok (.invokevirtual 76, 3) := by decide +kernel
theorem dX5_behindActs_68 : decode cX5_behindActs 68 = .ok (.ifCond .eq 18, 3) := by decide +kernel
theorem dX5_behindActs_71 : decode cX5_behindActs 71 = .ok (.aload_n 0, 1) := by decide +kernel
theorem dX5_behindActs_72 : decode cX5_behindActs 72 = .ok (.getfield 24, 3) := by decide +kernel
theorem dX5_behindActs_75 : decode cX5_behindActs 75 = .ok (.iload 4, 2) := by decide +kernel
theorem dX5_behindActs_77 : decode cX5_behindActs 77 = .ok (.bipush 10, 2) := by decide +kernel
theorem dX5_behindActs_79 : decode cX5_behindActs 79 = .ok (.isub, 1) := by decide +kernel
theorem dX5_behindActs_80 : decode cX5_behindActs 80 = .ok (.invokevirtual 82, 3) := by decide +kernel
theorem dX5_behindActs_83 : decode cX5_behindActs 83 = .ok (.goto 5, 3) := by decide +kernel
theorem dX5_behindActs_86 : decode cX5_behindActs 86 = .ok (.bipush (-9), 2) := by decide +kernel
theorem dX5_behindActs_88 : decode cX5_behindActs 88 = .ok (.ireturn, 1) := by decide +kernel
set_option maxRecDepth 20000 in
theorem ggX5_openingsAmong_X3_cellAt : GoodIn wsX5_openingsAmong wsX3_cellAt := goodIn_r _ [6, 7, 8, 22, 23, 24, 25] (by decide +kernel) (by decide +kernel)
set_option maxRecDepth 20000 in
theorem gX5_openingsAmong_X3_cellAt : GoodIn wsX5_openingsAmong (wsV RX5 141 RX3 yX3_cellAt wsX3_cellAt) := goodIn_app (goodIn_of _ (by decide +kernel)) ggX5_openingsAmong_X3_cellAt
set_option maxRecDepth 20000 in
theorem ggX5_openingsAmong_X0_lastReach : GoodIn wsX5_openingsAmong wsX0_lastReach := goodIn_r _ [13, 14, 26, 27, 28, 29, 30] (by decide +kernel) (by decide +kernel)
set_option maxRecDepth 20000 in
theorem gX5_openingsAmong_X0_lastReach : GoodIn wsX5_openingsAmong (wsV RX5 144 RX0 yX0_lastReach wsX0_lastReach) := goodIn_app (goodIn_of _ (by decide +kernel)) ggX5_openingsAmong_X0_lastReach
theorem dX5_openingsAmong_0 : decode cX5_openingsAmong 0 = .ok (.iconst 0, 1) := by decide +kernel
theorem dX5_openingsAmong_1 : decode cX5_openingsAmong 1 = .ok (.istore 4, 2) := by decide +kernel
theorem dX5_openingsAmong_3 : decode cX5_openingsAmong 3 = .ok (.iconst 0, 1) := by decide +kernel
theorem dX5_openingsAmong_4 : decode cX5_openingsAmong 4 = .ok (.istore 5, 2) := by decide +kernel
theorem dX5_openingsAmong_6 : decode cX5_openingsAmong 6 = .ok (.iload 5, 2) := by decide +kernel
theorem dX5_openingsAmong_8 : decode cX5_openingsAmong 8 = .ok (.iload_n 3, 1) := by decide +kernel
theorem dX5_openingsAmong_9 : decode cX5_openingsAmong 9 = .ok (.if_icmp .ge 30, 3) := by decide +kernel
theorem dX5_openingsAmong_12 : decode cX5_openingsAmong 12 = .ok (.aload_n 1, 1) := by decide +kernel
theorem dX5_openingsAmong_13 : decode cX5_openingsAmong 13 = .ok (.iload_n 2, 1) := by decide +kernel
theorem dX5_openingsAmong_14 : decode cX5_openingsAmong 14 = .ok (.iload 5, 2) := by decide +kernel
theorem dX5_openingsAmong_16 : decode cX5_openingsAmong 16 = .ok (.iadd, 1) := by decide +kernel
theorem dX5_openingsAmong_17 : decode cX5_openingsAmong 17 = .ok (.invokevirtual 141, 3) := by decide +kernel
theorem dX5_openingsAmong_20 : decode cX5_openingsAmong 20 = .ok (.aload_n 0, 1) := by decide +kernel
theorem dX5_openingsAmong_21 : decode cX5_openingsAmong 21 = .ok (.getfield 20, 3) := by decide +kernel
theorem dX5_openingsAmong_24 : decode cX5_openingsAmong 24 = .ok (.invokevirtual 144, 3) := by decide +kernel
theorem dX5_openingsAmong_27 : decode cX5_openingsAmong 27 = .ok (.if_icmp .eq 6, 3) := by decide +kernel
theorem dX5_openingsAmong_30 : decode cX5_openingsAmong 30 = .ok (.iinc 4 1, 3) := by decide +kernel
theorem dX5_openingsAmong_33 : decode cX5_openingsAmong 33 = .ok (.iinc 5 1, 3) := by decide +kernel
theorem dX5_openingsAmong_36 : decode cX5_openingsAmong 36 = .ok (.goto (-30), 3) := by decide +kernel
theorem dX5_openingsAmong_39 : decode cX5_openingsAmong 39 = .ok (.iload 4, 2) := by decide +kernel
theorem dX5_openingsAmong_41 : decode cX5_openingsAmong 41 = .ok (.ireturn, 1) := by decide +kernel
set_option maxRecDepth 20000 in
theorem ggX5_boat_X0_has : GoodIn wsX5_boat wsX0_has := goodIn_r _ [7, 8, 127, 128, 129, 130, 131] (by decide +kernel) (by decide +kernel)
set_option maxRecDepth 20000 in
theorem gX5_boat_X0_has : GoodIn wsX5_boat (wsV RX5 76 RX0 yX0_has wsX0_has) := goodIn_app (goodIn_of _ (by decide +kernel)) ggX5_boat_X0_has
set_option maxRecDepth 20000 in
theorem ggX5_boat_X5_isPlaceOfRow : GoodIn wsX5_boat wsX5_isPlaceOfRow := goodIn_r _ [12] (by decide +kernel) (by decide +kernel)
set_option maxRecDepth 20000 in
theorem gX5_boat_X5_isPlaceOfRow : GoodIn wsX5_boat (va_wsS RX5 153 yX5_isPlaceOfRow wsX5_isPlaceOfRow) := goodIn_app (goodIn_of _ (by decide +kernel)) ggX5_boat_X5_isPlaceOfRow
set_option maxRecDepth 20000 in
theorem ggX5_boat_X2_aimBoatAt : GoodIn wsX5_boat wsX2_aimBoatAt := goodIn_r _ [17, 18, 19, 20, 132, 133, 134, 135, 136, 137, 138, 139, 140, 141, 142, 143] (by decide +kernel) (by decide +kernel)
set_option maxRecDepth 20000 in
theorem gX5_boat_X2_aimBoatAt : GoodIn wsX5_boat (wsV RX5 156 RX2 yX2_aimBoatAt wsX2_aimBoatAt) := goodIn_app (goodIn_of _ (by decide +kernel)) ggX5_boat_X2_aimBoatAt
set_option maxRecDepth 20000 in
theorem ggX5_boat_X2_look : GoodIn wsX5_boat wsX2_look := goodIn_r _ [24, 25, 26, 27, 28, 29, 30, 31, 32, 6, 33, 8, 34, 35, 36, 37, 38, 39, 4, 5, 7, 40, 41, 16, 42, 43, 44, 45, 46, 47, 48, 49, 50, 51, 52, 53, 54, 55, 56, 57, 58, 59, 60, 61, 62, 63, 64, 65, 66, 67, 18, 19, 68, 20, 69, 70, 71, 72, 73, 74, 75, 76, 77, 78, 79, 80, 81, 82, 83, 84, 85, 86, 87, 88, 89, 90, 91, 92, 93, 94, 95, 96, 97, 98, 99, 100, 101, 102, 103, 104, 105, 106, 107, 108, 109, 110, 111, 112, 113, 114, 115, 132, 133, 134, 135, 136, 137, 138, 139, 140, 141, 142, 143, 127, 128, 129, 130, 131] (by decide +kernel) (by decide +kernel)
set_option maxRecDepth 20000 in
theorem gX5_boat_X2_look : GoodIn wsX5_boat (wsV RX5 159 RX2 yX2_look wsX2_look) := goodIn_app (goodIn_of _ (by decide +kernel)) ggX5_boat_X2_look
set_option maxRecDepth 20000 in
theorem ggX5_boat_X2_actAt : GoodIn wsX5_boat wsX2_actAt := goodIn_r _ [119, 73, 115, 132, 133, 134, 135, 136, 137, 138, 139, 140, 141, 142, 143] (by decide +kernel) (by decide +kernel)
set_option maxRecDepth 20000 in
theorem gX5_boat_X2_actAt : GoodIn wsX5_boat (wsV RX5 163 RX2 yX2_actAt wsX2_actAt) := goodIn_app (goodIn_of _ (by decide +kernel)) ggX5_boat_X2_actAt
theorem dX5_boat_0 : decode cX5_boat 0 = .ok (.aload_n 0, 1) := by decide +kernel
theorem dX5_boat_1 : decode cX5_boat 1 = .ok (.getfield 20, 3) := by decide +kernel
theorem dX5_boat_4 : decode cX5_boat 4 = .ok (.iload_n 1, 1) := by decide +kernel
theorem dX5_boat_5 : decode cX5_boat 5 = .ok (.invokevirtual 76, 3) := by decide +kernel
theorem dX5_boat_8 : decode cX5_boat 8 = .ok (.ifCond .eq 14, 3) := by decide +kernel
theorem dX5_boat_11 : decode cX5_boat 11 = .ok (.aload_n 0, 1) := by decide +kernel
theorem dX5_boat_12 : decode cX5_boat 12 = .ok (.getfield 20, 3) := by decide +kernel
theorem dX5_boat_15 : decode cX5_boat 15 = .ok (.iload_n 2, 1) := by decide +kernel
theorem dX5_boat_16 : decode cX5_boat 16 = .ok (.invokevirtual 76, 3) := by decide +kernel
theorem dX5_boat_19 : decode cX5_boat 19 = .ok (.ifCond .ne 5, 3) := by decide +kernel
theorem dX5_boat_22 : decode cX5_boat 22 = .ok (.iconst (-1), 1) := by decide +kernel
theorem dX5_boat_23 : decode cX5_boat 23 = .ok (.ireturn, 1) := by decide +kernel
theorem dX5_boat_24 : decode cX5_boat 24 = .ok (.iload_n 2, 1) := by decide +kernel
theorem dX5_boat_25 : decode cX5_boat 25 = .ok (.iload_n 1, 1) := by decide +kernel
theorem dX5_boat_26 : decode cX5_boat 26 = .ok (.if_icmp .gt 6, 3) := by decide +kernel
theorem dX5_boat_29 : decode cX5_boat 29 = .ok (.bipush (-3), 2) := by decide +kernel
theorem dX5_boat_31 : decode cX5_boat 31 = .ok (.ireturn, 1) := by decide +kernel
theorem dX5_boat_32 : decode cX5_boat 32 = .ok (.iload_n 3, 1) := by decide +kernel
theorem dX5_boat_33 : decode cX5_boat 33 = .ok (.invokestatic 153, 3) := by decide +kernel
theorem dX5_boat_36 : decode cX5_boat 36 = .ok (.ifCond .ne 6, 3) := by decide +kernel
theorem dX5_boat_39 : decode cX5_boat 39 = .ok (.bipush (-2), 2) := by decide +kernel
theorem dX5_boat_41 : decode cX5_boat 41 = .ok (.ireturn, 1) := by decide +kernel
theorem dX5_boat_42 : decode cX5_boat 42 = .ok (.aload_n 0, 1) := by decide +kernel
theorem dX5_boat_43 : decode cX5_boat 43 = .ok (.getfield 37, 3) := by decide +kernel
theorem dX5_boat_46 : decode cX5_boat 46 = .ok (.iload_n 2, 1) := by decide +kernel
theorem dX5_boat_47 : decode cX5_boat 47 = .ok (.invokevirtual 156, 3) := by decide +kernel
theorem dX5_boat_50 : decode cX5_boat 50 = .ok (.aload_n 0, 1) := by decide +kernel
theorem dX5_boat_51 : decode cX5_boat 51 = .ok (.getfield 37, 3) := by decide +kernel
theorem dX5_boat_54 : decode cX5_boat 54 = .ok (.aload_n 0, 1) := by decide +kernel
theorem dX5_boat_55 : decode cX5_boat 55 = .ok (.getfield 20, 3) := by decide +kernel
theorem dX5_boat_58 : decode cX5_boat 58 = .ok (.iload_n 1, 1) := by decide +kernel
theorem dX5_boat_59 : decode cX5_boat 59 = .ok (.invokevirtual 159, 3) := by decide +kernel
theorem dX5_boat_62 : decode cX5_boat 62 = .ok (.aload_n 0, 1) := by decide +kernel
theorem dX5_boat_63 : decode cX5_boat 63 = .ok (.getfield 37, 3) := by decide +kernel
theorem dX5_boat_66 : decode cX5_boat 66 = .ok (.iload_n 3, 1) := by decide +kernel
theorem dX5_boat_67 : decode cX5_boat 67 = .ok (.invokevirtual 163, 3) := by decide +kernel
theorem dX5_boat_70 : decode cX5_boat 70 = .ok (.ireturn, 1) := by decide +kernel
set_option maxRecDepth 20000 in
theorem ggX5_raise_X0_has : GoodIn wsX5_raise wsX0_has := goodIn_r _ [7, 8, 130, 131, 132, 133, 134] (by decide +kernel) (by decide +kernel)
set_option maxRecDepth 20000 in
theorem gX5_raise_X0_has : GoodIn wsX5_raise (wsV RX5 76 RX0 yX0_has wsX0_has) := goodIn_app (goodIn_of _ (by decide +kernel)) ggX5_raise_X0_has
set_option maxRecDepth 20000 in
theorem ggX5_raise_X5_isFrom0To : GoodIn wsX5_raise wsX5_isFrom0To := goodIn_r _ [12] (by decide +kernel) (by decide +kernel)
set_option maxRecDepth 20000 in
theorem gX5_raise_X5_isFrom0To : GoodIn wsX5_raise (va_wsS RX5 91 yX5_isFrom0To wsX5_isFrom0To) := goodIn_app (goodIn_of _ (by decide +kernel)) ggX5_raise_X5_isFrom0To
set_option maxRecDepth 20000 in
theorem ggX5_raise_X5_isPlaceOfRow : GoodIn wsX5_raise wsX5_isPlaceOfRow := goodIn_r _ [15] (by decide +kernel) (by decide +kernel)
set_option maxRecDepth 20000 in
theorem gX5_raise_X5_isPlaceOfRow : GoodIn wsX5_raise (va_wsS RX5 153 yX5_isPlaceOfRow wsX5_isPlaceOfRow) := goodIn_app (goodIn_of _ (by decide +kernel)) ggX5_raise_X5_isPlaceOfRow
set_option maxRecDepth 20000 in
theorem ggX5_raise_X2_aimAtLevel : GoodIn wsX5_raise wsX2_aimAtLevel := goodIn_r _ [20, 21, 22, 23, 135, 136, 137, 138, 139, 140, 141, 142, 143, 144, 145, 146] (by decide +kernel) (by decide +kernel)
set_option maxRecDepth 20000 in
theorem gX5_raise_X2_aimAtLevel : GoodIn wsX5_raise (wsV RX5 166 RX2 yX2_aimAtLevel wsX2_aimAtLevel) := goodIn_app (goodIn_of _ (by decide +kernel)) ggX5_raise_X2_aimAtLevel
set_option maxRecDepth 20000 in
theorem ggX5_raise_X2_look : GoodIn wsX5_raise wsX2_look := goodIn_r _ [27, 28, 29, 30, 31, 32, 33, 34, 35, 6, 36, 8, 37, 38, 39, 40, 41, 42, 4, 5, 7, 43, 44, 19, 45, 46, 47, 48, 49, 50, 51, 52, 53, 54, 55, 56, 57, 58, 59, 60, 61, 62, 63, 64, 65, 66, 67, 68, 69, 70, 21, 22, 71, 23, 72, 73, 74, 75, 76, 77, 78, 79, 80, 81, 82, 83, 84, 85, 86, 87, 88, 89, 90, 91, 92, 93, 94, 95, 96, 97, 98, 99, 100, 101, 102, 103, 104, 105, 106, 107, 108, 109, 110, 111, 112, 113, 114, 115, 116, 117, 118, 135, 136, 137, 138, 139, 140, 141, 142, 143, 144, 145, 146, 130, 131, 132, 133, 134] (by decide +kernel) (by decide +kernel)
set_option maxRecDepth 20000 in
theorem gX5_raise_X2_look : GoodIn wsX5_raise (wsV RX5 159 RX2 yX2_look wsX2_look) := goodIn_app (goodIn_of _ (by decide +kernel)) ggX5_raise_X2_look
set_option maxRecDepth 20000 in
theorem ggX5_raise_X2_actAt : GoodIn wsX5_raise wsX2_actAt := goodIn_r _ [122, 76, 118, 135, 136, 137, 138, 139, 140, 141, 142, 143, 144, 145, 146] (by decide +kernel) (by decide +kernel)
set_option maxRecDepth 20000 in
theorem gX5_raise_X2_actAt : GoodIn wsX5_raise (wsV RX5 163 RX2 yX2_actAt wsX2_actAt) := goodIn_app (goodIn_of _ (by decide +kernel)) ggX5_raise_X2_actAt
theorem dX5_raise_0 : decode cX5_raise 0 = .ok (.aload_n 0, 1) := by decide +kernel
theorem dX5_raise_1 : decode cX5_raise 1 = .ok (.getfield 20, 3) := by decide +kernel
theorem dX5_raise_4 : decode cX5_raise 4 = .ok (.iload_n 1, 1) := by decide +kernel
theorem dX5_raise_5 : decode cX5_raise 5 = .ok (.invokevirtual 76, 3) := by decide +kernel
theorem dX5_raise_8 : decode cX5_raise 8 = .ok (.ifCond .ne 5, 3) := by decide +kernel
theorem dX5_raise_11 : decode cX5_raise 11 = .ok (.iconst (-1), 1) := by decide +kernel
theorem dX5_raise_12 : decode cX5_raise 12 = .ok (.ireturn, 1) := by decide +kernel
theorem dX5_raise_13 : decode cX5_raise 13 = .ok (.iload_n 2, 1) := by decide +kernel
theorem dX5_raise_14 : decode cX5_raise 14 = .ok (.bipush 9, 2) := by decide +kernel
theorem dX5_raise_16 : decode cX5_raise 16 = .ok (.invokestatic 91, 3) := by decide +kernel
theorem dX5_raise_19 : decode cX5_raise 19 = .ok (.ifCond .eq 10, 3) := by decide +kernel
theorem dX5_raise_22 : decode cX5_raise 22 = .ok (.iload_n 3, 1) := by decide +kernel
theorem dX5_raise_23 : decode cX5_raise 23 = .ok (.invokestatic 153, 3) := by decide +kernel
theorem dX5_raise_26 : decode cX5_raise 26 = .ok (.ifCond .ne 6, 3) := by decide +kernel
theorem dX5_raise_29 : decode cX5_raise 29 = .ok (.bipush (-2), 2) := by decide +kernel
theorem dX5_raise_31 : decode cX5_raise 31 = .ok (.ireturn, 1) := by decide +kernel
theorem dX5_raise_32 : decode cX5_raise 32 = .ok (.aload_n 0, 1) := by decide +kernel
theorem dX5_raise_33 : decode cX5_raise 33 = .ok (.getfield 37, 3) := by decide +kernel
theorem dX5_raise_36 : decode cX5_raise 36 = .ok (.iload_n 1, 1) := by decide +kernel
theorem dX5_raise_37 : decode cX5_raise 37 = .ok (.iload_n 2, 1) := by decide +kernel
theorem dX5_raise_38 : decode cX5_raise 38 = .ok (.invokevirtual 166, 3) := by decide +kernel
theorem dX5_raise_41 : decode cX5_raise 41 = .ok (.aload_n 0, 1) := by decide +kernel
theorem dX5_raise_42 : decode cX5_raise 42 = .ok (.getfield 37, 3) := by decide +kernel
theorem dX5_raise_45 : decode cX5_raise 45 = .ok (.aload_n 0, 1) := by decide +kernel
theorem dX5_raise_46 : decode cX5_raise 46 = .ok (.getfield 20, 3) := by decide +kernel
theorem dX5_raise_49 : decode cX5_raise 49 = .ok (.iconst 3, 1) := by decide +kernel
theorem dX5_raise_50 : decode cX5_raise 50 = .ok (.invokevirtual 159, 3) := by decide +kernel
theorem dX5_raise_53 : decode cX5_raise 53 = .ok (.aload_n 0, 1) := by decide +kernel
theorem dX5_raise_54 : decode cX5_raise 54 = .ok (.getfield 37, 3) := by decide +kernel
theorem dX5_raise_57 : decode cX5_raise 57 = .ok (.iload_n 3, 1) := by decide +kernel
theorem dX5_raise_58 : decode cX5_raise 58 = .ok (.invokevirtual 163, 3) := by decide +kernel
theorem dX5_raise_61 : decode cX5_raise 61 = .ok (.ireturn, 1) := by decide +kernel
theorem dX5_isPlaceOfRow_0 : decode cX5_isPlaceOfRow 0 = .ok (.iload_n 0, 1) := by decide +kernel
theorem dX5_isPlaceOfRow_1 : decode cX5_isPlaceOfRow 1 = .ok (.iconst (-1), 1) := by decide +kernel
theorem dX5_isPlaceOfRow_2 : decode cX5_isPlaceOfRow 2 = .ok (.if_icmp .lt 13, 3) := by decide +kernel
theorem dX5_isPlaceOfRow_5 : decode cX5_isPlaceOfRow 5 = .ok (.iload_n 0, 1) := by decide +kernel
theorem dX5_isPlaceOfRow_6 : decode cX5_isPlaceOfRow 6 = .ok (.bipush 40, 2) := by decide +kernel
theorem dX5_isPlaceOfRow_8 : decode cX5_isPlaceOfRow 8 = .ok (.if_icmp .ge 7, 3) := by decide +kernel
theorem dX5_isPlaceOfRow_11 : decode cX5_isPlaceOfRow 11 = .ok (.iconst 1, 1) := by decide +kernel
theorem dX5_isPlaceOfRow_12 : decode cX5_isPlaceOfRow 12 = .ok (.goto 4, 3) := by decide +kernel
theorem dX5_isPlaceOfRow_15 : decode cX5_isPlaceOfRow 15 = .ok (.iconst 0, 1) := by decide +kernel
theorem dX5_isPlaceOfRow_16 : decode cX5_isPlaceOfRow 16 = .ok (.ireturn, 1) := by decide +kernel
set_option maxRecDepth 20000 in
theorem ggX5_reading_X0_has : GoodIn wsX5_reading wsX0_has := goodIn_r _ [8, 9, 34, 35, 36, 37, 38] (by decide +kernel) (by decide +kernel)
set_option maxRecDepth 20000 in
theorem gX5_reading_X0_has : GoodIn wsX5_reading (wsV RX5 76 RX0 yX0_has wsX0_has) := goodIn_app (goodIn_of _ (by decide +kernel)) ggX5_reading_X0_has
set_option maxRecDepth 20000 in
theorem ggX5_reading_X5_isFrom0To : GoodIn wsX5_reading wsX5_isFrom0To := goodIn_r _ [13] (by decide +kernel) (by decide +kernel)
set_option maxRecDepth 20000 in
theorem gX5_reading_X5_isFrom0To : GoodIn wsX5_reading (va_wsS RX5 91 yX5_isFrom0To wsX5_isFrom0To) := goodIn_app (goodIn_of _ (by decide +kernel)) ggX5_reading_X5_isFrom0To
set_option maxRecDepth 20000 in
theorem ggX5_reading_X1_note : GoodIn wsX5_reading wsX1_note := goodIn_r _ [18, 19, 20, 21, 22, 30, 31, 32, 33] (by decide +kernel) (by decide +kernel)
set_option maxRecDepth 20000 in
theorem gX5_reading_X1_note : GoodIn wsX5_reading (wsV RX5 170 RX1 yX1_note wsX1_note) := goodIn_app (goodIn_of _ (by decide +kernel)) ggX5_reading_X1_note
theorem dX5_reading_0 : decode cX5_reading 0 = .ok (.aload_n 0, 1) := by decide +kernel
theorem dX5_reading_1 : decode cX5_reading 1 = .ok (.getfield 20, 3) := by decide +kernel
theorem dX5_reading_4 : decode cX5_reading 4 = .ok (.iload_n 1, 1) := by decide +kernel
theorem dX5_reading_5 : decode cX5_reading 5 = .ok (.invokevirtual 76, 3) := by decide +kernel
theorem dX5_reading_8 : decode cX5_reading 8 = .ok (.ifCond .ne 5, 3) := by decide +kernel
theorem dX5_reading_11 : decode cX5_reading 11 = .ok (.iconst (-1), 1) := by decide +kernel
theorem dX5_reading_12 : decode cX5_reading 12 = .ok (.ireturn, 1) := by decide +kernel
theorem dX5_reading_13 : decode cX5_reading 13 = .ok (.iload_n 2, 1) := by decide +kernel
theorem dX5_reading_14 : decode cX5_reading 14 = .ok (.bipush (-9), 2) := by decide +kernel
theorem dX5_reading_16 : decode cX5_reading 16 = .ok (.if_icmp .eq 15, 3) := by decide +kernel
theorem dX5_reading_19 : decode cX5_reading 19 = .ok (.iload_n 2, 1) := by decide +kernel
theorem dX5_reading_20 : decode cX5_reading 20 = .ok (.bipush 9, 2) := by decide +kernel
theorem dX5_reading_22 : decode cX5_reading 22 = .ok (.invokestatic 91, 3) := by decide +kernel
theorem dX5_reading_25 : decode cX5_reading 25 = .ok (.ifCond .ne 6, 3) := by decide +kernel
theorem dX5_reading_28 : decode cX5_reading 28 = .ok (.bipush (-2), 2) := by decide +kernel
theorem dX5_reading_30 : decode cX5_reading 30 = .ok (.ireturn, 1) := by decide +kernel
theorem dX5_reading_31 : decode cX5_reading 31 = .ok (.aload_n 0, 1) := by decide +kernel
theorem dX5_reading_32 : decode cX5_reading 32 = .ok (.getfield 30, 3) := by decide +kernel
theorem dX5_reading_35 : decode cX5_reading 35 = .ok (.iload_n 1, 1) := by decide +kernel
theorem dX5_reading_36 : decode cX5_reading 36 = .ok (.iload_n 2, 1) := by decide +kernel
theorem dX5_reading_37 : decode cX5_reading 37 = .ok (.iload_n 3, 1) := by decide +kernel
theorem dX5_reading_38 : decode cX5_reading 38 = .ok (.invokevirtual 170, 3) := by decide +kernel
theorem dX5_reading_41 : decode cX5_reading 41 = .ok (.ifCond .eq 15, 3) := by decide +kernel
theorem dX5_reading_44 : decode cX5_reading 44 = .ok (.aload_n 0, 1) := by decide +kernel
theorem dX5_reading_45 : decode cX5_reading 45 = .ok (.getfield 30, 3) := by decide +kernel
theorem dX5_reading_48 : decode cX5_reading 48 = .ok (.getfield 72, 3) := by decide +kernel
theorem dX5_reading_51 : decode cX5_reading 51 = .ok (.iconst 1, 1) := by decide +kernel
theorem dX5_reading_52 : decode cX5_reading 52 = .ok (.isub, 1) := by decide +kernel
theorem dX5_reading_53 : decode cX5_reading 53 = .ok (.goto 5, 3) := by decide +kernel
theorem dX5_reading_56 : decode cX5_reading 56 = .ok (.bipush (-4), 2) := by decide +kernel
theorem dX5_reading_58 : decode cX5_reading 58 = .ok (.ireturn, 1) := by decide +kernel
set_option maxRecDepth 20000 in
theorem ggX5_back_X5_isFrom0To : GoodIn wsX5_back wsX5_isFrom0To := goodIn_r _ [6] (by decide +kernel) (by decide +kernel)
set_option maxRecDepth 20000 in
theorem gX5_back_X5_isFrom0To : GoodIn wsX5_back (va_wsS RX5 91 yX5_isFrom0To wsX5_isFrom0To) := goodIn_app (goodIn_of _ (by decide +kernel)) ggX5_back_X5_isFrom0To
theorem dX5_back_0 : decode cX5_back 0 = .ok (.iload_n 1, 1) := by decide +kernel
theorem dX5_back_1 : decode cX5_back 1 = .ok (.aload_n 0, 1) := by decide +kernel
theorem dX5_back_2 : decode cX5_back 2 = .ok (.getfield 30, 3) := by decide +kernel
theorem dX5_back_5 : decode cX5_back 5 = .ok (.getfield 72, 3) := by decide +kernel
theorem dX5_back_8 : decode cX5_back 8 = .ok (.invokestatic 91, 3) := by decide +kernel
theorem dX5_back_11 : decode cX5_back 11 = .ok (.ifCond .ne 6, 3) := by decide +kernel
theorem dX5_back_14 : decode cX5_back 14 = .ok (.bipush (-2), 2) := by decide +kernel
theorem dX5_back_16 : decode cX5_back 16 = .ok (.ireturn, 1) := by decide +kernel
theorem dX5_back_17 : decode cX5_back 17 = .ok (.aload_n 0, 1) := by decide +kernel
theorem dX5_back_18 : decode cX5_back 18 = .ok (.getfield 30, 3) := by decide +kernel
theorem dX5_back_21 : decode cX5_back 21 = .ok (.dup, 1) := by decide +kernel
theorem dX5_back_22 : decode cX5_back 22 = .ok (.getfield 72, 3) := by decide +kernel
theorem dX5_back_25 : decode cX5_back 25 = .ok (.iload_n 1, 1) := by decide +kernel
theorem dX5_back_26 : decode cX5_back 26 = .ok (.isub, 1) := by decide +kernel
theorem dX5_back_27 : decode cX5_back 27 = .ok (.putfield 72, 3) := by decide +kernel
theorem dX5_back_30 : decode cX5_back 30 = .ok (.aload_n 0, 1) := by decide +kernel
theorem dX5_back_31 : decode cX5_back 31 = .ok (.getfield 30, 3) := by decide +kernel
theorem dX5_back_34 : decode cX5_back 34 = .ok (.getfield 72, 3) := by decide +kernel
theorem dX5_back_37 : decode cX5_back 37 = .ok (.ireturn, 1) := by decide +kernel
set_option maxRecDepth 20000 in
theorem ggX5_limits_X5_numbersThatFit : GoodIn wsX5_limits wsX5_numbersThatFit := goodIn_r _ [5, 6, 7, 8, 9, 10, 11, 12, 13, 14, 15, 16, 17, 18, 19, 20, 21, 22, 23, 24, 25, 26, 27, 28, 29, 30, 31, 32, 33, 34, 35, 36, 37, 38, 39, 40, 41, 42, 43, 44, 45, 46, 47, 48, 49, 50, 51, 52, 53, 54, 55, 56, 57, 58, 59, 60, 61, 62, 63, 64, 65, 66, 67, 68, 69, 70, 71, 72, 73, 74] (by decide +kernel) (by decide +kernel)
set_option maxRecDepth 20000 in
theorem gX5_limits_X5_numbersThatFit : GoodIn wsX5_limits (wsV RX5 174 RX5 yX5_numbersThatFit wsX5_numbersThatFit) := goodIn_app (goodIn_of _ (by decide +kernel)) ggX5_limits_X5_numbersThatFit
theorem dX5_limits_0 : decode cX5_limits 0 = .ok (.aload_n 0, 1) := by decide +kernel
theorem dX5_limits_1 : decode cX5_limits 1 = .ok (.iload_n 1, 1) := by decide +kernel
theorem dX5_limits_2 : decode cX5_limits 2 = .ok (.iconst 2, 1) := by decide +kernel
theorem dX5_limits_3 : decode cX5_limits 3 = .ok (.bipush 9, 2) := by decide +kernel
theorem dX5_limits_5 : decode cX5_limits 5 = .ok (.invokevirtual 174, 3) := by decide +kernel
theorem dX5_limits_8 : decode cX5_limits 8 = .ok (.ireturn, 1) := by decide +kernel
set_option maxRecDepth 20000 in
theorem ggX5_kinds_X5_numbersThatFit : GoodIn wsX5_kinds wsX5_numbersThatFit := goodIn_r _ [5, 6, 7, 8, 9, 10, 11, 12, 13, 14, 15, 16, 17, 18, 19, 20, 21, 22, 23, 24, 25, 26, 27, 28, 29, 30, 31, 32, 33, 34, 35, 36, 37, 38, 39, 40, 41, 42, 43, 44, 45, 46, 47, 48, 49, 50, 51, 52, 53, 54, 55, 56, 57, 58, 59, 60, 61, 62, 63, 64, 65, 66, 67, 68, 69, 70, 71, 72, 73, 74] (by decide +kernel) (by decide +kernel)
set_option maxRecDepth 20000 in
theorem gX5_kinds_X5_numbersThatFit : GoodIn wsX5_kinds (wsV RX5 174 RX5 yX5_numbersThatFit wsX5_numbersThatFit) := goodIn_app (goodIn_of _ (by decide +kernel)) ggX5_kinds_X5_numbersThatFit
theorem dX5_kinds_0 : decode cX5_kinds 0 = .ok (.aload_n 0, 1) := by decide +kernel
theorem dX5_kinds_1 : decode cX5_kinds 1 = .ok (.iload_n 1, 1) := by decide +kernel
theorem dX5_kinds_2 : decode cX5_kinds 2 = .ok (.iconst 0, 1) := by decide +kernel
theorem dX5_kinds_3 : decode cX5_kinds 3 = .ok (.iconst 2, 1) := by decide +kernel
theorem dX5_kinds_4 : decode cX5_kinds 4 = .ok (.invokevirtual 174, 3) := by decide +kernel
theorem dX5_kinds_7 : decode cX5_kinds 7 = .ok (.ireturn, 1) := by decide +kernel
set_option maxRecDepth 20000 in
theorem ggX5_levels_X5_numbersThatFit : GoodIn wsX5_levels wsX5_numbersThatFit := goodIn_r _ [5, 6, 7, 8, 9, 10, 11, 12, 13, 14, 15, 16, 17, 18, 19, 20, 21, 22, 23, 24, 25, 26, 27, 28, 29, 30, 31, 32, 33, 34, 35, 36, 37, 38, 39, 40, 41, 42, 43, 44, 45, 46, 47, 48, 49, 50, 51, 52, 53, 54, 55, 56, 57, 58, 59, 60, 61, 62, 63, 64, 65, 66, 67, 68, 69, 70, 71, 72, 73, 74] (by decide +kernel) (by decide +kernel)
set_option maxRecDepth 20000 in
theorem gX5_levels_X5_numbersThatFit : GoodIn wsX5_levels (wsV RX5 174 RX5 yX5_numbersThatFit wsX5_numbersThatFit) := goodIn_app (goodIn_of _ (by decide +kernel)) ggX5_levels_X5_numbersThatFit
theorem dX5_levels_0 : decode cX5_levels 0 = .ok (.aload_n 0, 1) := by decide +kernel
theorem dX5_levels_1 : decode cX5_levels 1 = .ok (.iload_n 1, 1) := by decide +kernel
theorem dX5_levels_2 : decode cX5_levels 2 = .ok (.iconst 1, 1) := by decide +kernel
theorem dX5_levels_3 : decode cX5_levels 3 = .ok (.bipush 9, 2) := by decide +kernel
theorem dX5_levels_5 : decode cX5_levels 5 = .ok (.invokevirtual 174, 3) := by decide +kernel
theorem dX5_levels_8 : decode cX5_levels 8 = .ok (.ireturn, 1) := by decide +kernel
set_option maxRecDepth 20000 in
theorem ggX5_numbersThatFit_X0_has : GoodIn wsX5_numbersThatFit wsX0_has := goodIn_r _ [8, 9, 61, 62, 63, 64, 65] (by decide +kernel) (by decide +kernel)
set_option maxRecDepth 20000 in
theorem gX5_numbersThatFit_X0_has : GoodIn wsX5_numbersThatFit (wsV RX5 76 RX0 yX0_has wsX0_has) := goodIn_app (goodIn_of _ (by decide +kernel)) ggX5_numbersThatFit_X0_has
set_option maxRecDepth 20000 in
theorem ggX5_numbersThatFit_X0_takeOver : GoodIn wsX5_numbersThatFit wsX0_takeOver := goodIn_r _ [13, 9, 14, 15, 16, 17, 7, 18, 19, 20, 5, 6, 8, 21, 22, 23, 24, 25, 26, 27, 28, 29, 30, 31, 32, 33, 34, 61, 62, 63, 64, 65] (by decide +kernel) (by decide +kernel)
set_option maxRecDepth 20000 in
theorem gX5_numbersThatFit_X0_takeOver : GoodIn wsX5_numbersThatFit (wsV RX5 130 RX0 yX0_takeOver wsX0_takeOver) := goodIn_app (goodIn_of _ (by decide +kernel)) ggX5_numbersThatFit_X0_takeOver
set_option maxRecDepth 20000 in
theorem ggX5_numbersThatFit_X0_become : GoodIn wsX5_numbersThatFit wsX0_become := goodIn_r _ [24, 19, 25, 26, 20, 5, 6, 7, 8, 9, 61, 62, 63, 64, 65] (by decide +kernel) (by decide +kernel)
set_option maxRecDepth 20000 in
theorem gX5_numbersThatFit_X0_become : GoodIn wsX5_numbersThatFit (wsV RX5 95 RX0 yX0_become wsX0_become) := goodIn_app (goodIn_of _ (by decide +kernel)) ggX5_numbersThatFit_X0_become
set_option maxRecDepth 20000 in
theorem ggX5_numbersThatFit_X1_areSoIn : GoodIn wsX5_numbersThatFit wsX1_areSoIn := goodIn_r _ [40, 41, 42, 43, 44, 45, 28, 29, 7, 30, 25, 20, 5, 6, 8, 9, 46, 47, 48, 49, 50, 51, 52, 53, 31, 32, 33, 34, 26, 15, 16, 17, 18, 19, 66, 67, 68, 69, 61, 62, 63, 64, 65] (by decide +kernel) (by decide +kernel)
set_option maxRecDepth 20000 in
theorem gX5_numbersThatFit_X1_areSoIn : GoodIn wsX5_numbersThatFit (wsV RX5 177 RX1 yX1_areSoIn wsX1_areSoIn) := goodIn_app (goodIn_of _ (by decide +kernel)) ggX5_numbersThatFit_X1_areSoIn
theorem dX5_numbersThatFit_0 : decode cX5_numbersThatFit 0 = .ok (.aload_n 0, 1) := by decide +kernel
theorem dX5_numbersThatFit_1 : decode cX5_numbersThatFit 1 = .ok (.getfield 20, 3) := by decide +kernel
theorem dX5_numbersThatFit_4 : decode cX5_numbersThatFit 4 = .ok (.iload_n 1, 1) := by decide +kernel
theorem dX5_numbersThatFit_5 : decode cX5_numbersThatFit 5 = .ok (.invokevirtual 76, 3) := by decide +kernel
theorem dX5_numbersThatFit_8 : decode cX5_numbersThatFit 8 = .ok (.ifCond .ne 5, 3) := by decide +kernel
theorem dX5_numbersThatFit_11 : decode cX5_numbersThatFit 11 = .ok (.iconst (-1), 1) := by decide +kernel
theorem dX5_numbersThatFit_12 : decode cX5_numbersThatFit 12 = .ok (.ireturn, 1) := by decide +kernel
theorem dX5_numbersThatFit_13 : decode cX5_numbersThatFit 13 = .ok (.aload_n 0, 1) := by decide +kernel
theorem dX5_numbersThatFit_14 : decode cX5_numbersThatFit 14 = .ok (.getfield 24, 3) := by decide +kernel
theorem dX5_numbersThatFit_17 : decode cX5_numbersThatFit 17 = .ok (.aload_n 0, 1) := by decide +kernel
theorem dX5_numbersThatFit_18 : decode cX5_numbersThatFit 18 = .ok (.getfield 20, 3) := by decide +kernel
theorem dX5_numbersThatFit_21 : decode cX5_numbersThatFit 21 = .ok (.invokevirtual 130, 3) := by decide +kernel
theorem dX5_numbersThatFit_24 : decode cX5_numbersThatFit 24 = .ok (.iconst 0, 1) := by decide +kernel
theorem dX5_numbersThatFit_25 : decode cX5_numbersThatFit 25 = .ok (.istore 4, 2) := by decide +kernel
theorem dX5_numbersThatFit_27 : decode cX5_numbersThatFit 27 = .ok (.iconst 0, 1) := by decide +kernel
theorem dX5_numbersThatFit_28 : decode cX5_numbersThatFit 28 = .ok (.istore 5, 2) := by decide +kernel
theorem dX5_numbersThatFit_30 : decode cX5_numbersThatFit 30 = .ok (.iload 5, 2) := by decide +kernel
theorem dX5_numbersThatFit_32 : decode cX5_numbersThatFit 32 = .ok (.iload_n 3, 1) := by decide +kernel
theorem dX5_numbersThatFit_33 : decode cX5_numbersThatFit 33 = .ok (.if_icmp .gt 43, 3) := by decide +kernel
theorem dX5_numbersThatFit_36 : decode cX5_numbersThatFit 36 = .ok (.aload_n 0, 1) := by decide +kernel
theorem dX5_numbersThatFit_37 : decode cX5_numbersThatFit 37 = .ok (.getfield 24, 3) := by decide +kernel
theorem dX5_numbersThatFit_40 : decode cX5_numbersThatFit 40 = .ok (.iload_n 1, 1) := by decide +kernel
theorem dX5_numbersThatFit_41 : decode cX5_numbersThatFit 41 = .ok (.iload_n 2, 1) := by decide +kernel
theorem dX5_numbersThatFit_42 : decode cX5_numbersThatFit 42 = .ok (.iload 5, 2) := by decide +kernel
theorem dX5_numbersThatFit_44 : decode cX5_numbersThatFit 44 = .ok (.invokevirtual 95, 3) := by decide +kernel
theorem dX5_numbersThatFit_47 : decode cX5_numbersThatFit 47 = .ok (.aload_n 0, 1) := by decide +kernel
theorem dX5_numbersThatFit_48 : decode cX5_numbersThatFit 48 = .ok (.getfield 30, 3) := by decide +kernel
theorem dX5_numbersThatFit_51 : decode cX5_numbersThatFit 51 = .ok (.aload_n 0, 1) := by decide +kernel
theorem dX5_numbersThatFit_52 : decode cX5_numbersThatFit 52 = .ok (.getfield 24, 3) := by decide +kernel
theorem dX5_numbersThatFit_55 : decode cX5_numbersThatFit 55 = .ok (.invokevirtual 177, 3) := by decide +kernel
theorem dX5_numbersThatFit_58 : decode cX5_numbersThatFit 58 = .ok (.ifCond .eq 12, 3) := by decide +kernel
theorem dX5_numbersThatFit_61 : decode cX5_numbersThatFit 61 = .ok (.iload 4, 2) := by decide +kernel
theorem dX5_numbersThatFit_63 : decode cX5_numbersThatFit 63 = .ok (.iconst 1, 1) := by decide +kernel
theorem dX5_numbersThatFit_64 : decode cX5_numbersThatFit 64 = .ok (.iload 5, 2) := by decide +kernel
theorem dX5_numbersThatFit_66 : decode cX5_numbersThatFit 66 = .ok (.ishl, 1) := by decide +kernel
theorem dX5_numbersThatFit_67 : decode cX5_numbersThatFit 67 = .ok (.ior, 1) := by decide +kernel
theorem dX5_numbersThatFit_68 : decode cX5_numbersThatFit 68 = .ok (.istore 4, 2) := by decide +kernel
theorem dX5_numbersThatFit_70 : decode cX5_numbersThatFit 70 = .ok (.iinc 5 1, 3) := by decide +kernel
theorem dX5_numbersThatFit_73 : decode cX5_numbersThatFit 73 = .ok (.goto (-43), 3) := by decide +kernel
theorem dX5_numbersThatFit_76 : decode cX5_numbersThatFit 76 = .ok (.iload 4, 2) := by decide +kernel
theorem dX5_numbersThatFit_78 : decode cX5_numbersThatFit 78 = .ok (.ireturn, 1) := by decide +kernel
set_option maxRecDepth 20000 in
theorem ggX5_odds_X0_isNone : GoodIn wsX5_odds wsX0_isNone := goodIn_r _ [7, 8, 48, 49, 50, 51, 52] (by decide +kernel) (by decide +kernel)
set_option maxRecDepth 20000 in
theorem gX5_odds_X0_isNone : GoodIn wsX5_odds (wsV RX5 99 RX0 yX0_isNone wsX0_isNone) := goodIn_app (goodIn_of _ (by decide +kernel)) ggX5_odds_X0_isNone
set_option maxRecDepth 20000 in
theorem ggX5_odds_X5_isFrom0To : GoodIn wsX5_odds wsX5_isFrom0To := goodIn_r _ [12] (by decide +kernel) (by decide +kernel)
set_option maxRecDepth 20000 in
theorem gX5_odds_X5_isFrom0To : GoodIn wsX5_odds (va_wsS RX5 91 yX5_isFrom0To wsX5_isFrom0To) := goodIn_app (goodIn_of _ (by decide +kernel)) ggX5_odds_X5_isFrom0To
set_option maxRecDepth 20000 in
theorem ggX5_odds_J6_bitCount_0f7a4 : GoodIn wsX5_odds wsJ6_bitCount_0f7a4 := goodIn_r _ [16, 17, 18, 19] (by decide +kernel) (by decide +kernel)
set_option maxRecDepth 20000 in
theorem gX5_odds_J6_bitCount_0f7a4 : GoodIn wsX5_odds (va_wsS RX5 183 yJ6_bitCount_0f7a4 wsJ6_bitCount_0f7a4) := goodIn_app (goodIn_of _ (by decide +kernel)) ggX5_odds_J6_bitCount_0f7a4
set_option maxRecDepth 20000 in
theorem ggX5_odds_X5_levelBehindRain : GoodIn wsX5_odds wsX5_levelBehindRain := goodIn_r _ [23, 1, 24, 25, 26, 27, 28, 29, 30, 31, 6, 32, 33, 34, 35, 36, 37, 8, 41, 42, 43, 44, 45, 46, 47, 48, 49, 50, 51, 52] (by decide +kernel) (by decide +kernel)
set_option maxRecDepth 20000 in
theorem gX5_odds_X5_levelBehindRain : GoodIn wsX5_odds (wsV RX5 188 RX5 yX5_levelBehindRain wsX5_levelBehindRain) := goodIn_app (goodIn_of _ (by decide +kernel)) ggX5_odds_X5_levelBehindRain
set_option maxRecDepth 20000 in
theorem ggX5_odds_X5_greatestCommon : GoodIn wsX5_odds wsX5_greatestCommon := goodIn_r _ [40] (by decide +kernel) (by decide +kernel)
set_option maxRecDepth 20000 in
theorem gX5_odds_X5_greatestCommon : GoodIn wsX5_odds (va_wsS RX5 191 yX5_greatestCommon wsX5_greatestCommon) := goodIn_app (goodIn_of _ (by decide +kernel)) ggX5_odds_X5_greatestCommon
theorem dX5_odds_0 : decode cX5_odds 0 = .ok (.aload_n 0, 1) := by decide +kernel
theorem dX5_odds_1 : decode cX5_odds 1 = .ok (.getfield 20, 3) := by decide +kernel
theorem dX5_odds_4 : decode cX5_odds 4 = .ok (.invokevirtual 99, 3) := by decide +kernel
theorem dX5_odds_7 : decode cX5_odds 7 = .ok (.ifCond .eq 7, 3) := by decide +kernel
theorem dX5_odds_10 : decode cX5_odds 10 = .ok (.ldc2_w 181, 3) := by decide +kernel
theorem dX5_odds_13 : decode cX5_odds 13 = .ok (.lreturn, 1) := by decide +kernel
theorem dX5_odds_14 : decode cX5_odds 14 = .ok (.iload_n 1, 1) := by decide +kernel
theorem dX5_odds_15 : decode cX5_odds 15 = .ok (.bipush 8, 2) := by decide +kernel
theorem dX5_odds_17 : decode cX5_odds 17 = .ok (.invokestatic 91, 3) := by decide +kernel
theorem dX5_odds_20 : decode cX5_odds 20 = .ok (.ifCond .eq 20, 3) := by decide +kernel
theorem dX5_odds_23 : decode cX5_odds 23 = .ok (.iload_n 2, 1) := by decide +kernel
theorem dX5_odds_24 : decode cX5_odds 24 = .ok (.bipush 9, 2) := by decide +kernel
theorem dX5_odds_26 : decode cX5_odds 26 = .ok (.invokestatic 91, 3) := by decide +kernel
theorem dX5_odds_29 : decode cX5_odds 29 = .ok (.ifCond .eq 11, 3) := by decide +kernel
theorem dX5_odds_32 : decode cX5_odds 32 = .ok (.iload_n 3, 1) := by decide +kernel
theorem dX5_odds_33 : decode cX5_odds 33 = .ok (.iconst 1, 1) := by decide +kernel
theorem dX5_odds_34 : decode cX5_odds 34 = .ok (.invokestatic 91, 3) := by decide +kernel
theorem dX5_odds_37 : decode cX5_odds 37 = .ok (.ifCond .ne 7, 3) := by decide +kernel
theorem dX5_odds_40 : decode cX5_odds 40 = .ok (.ldc2_w 181, 3) := by decide +kernel
theorem dX5_odds_43 : decode cX5_odds 43 = .ok (.lreturn, 1) := by decide +kernel
theorem dX5_odds_44 : decode cX5_odds 44 = .ok (.iconst 1, 1) := by decide +kernel
theorem dX5_odds_45 : decode cX5_odds 45 = .ok (.iload_n 1, 1) := by decide +kernel
theorem dX5_odds_46 : decode cX5_odds 46 = .ok (.ishl, 1) := by decide +kernel
theorem dX5_odds_47 : decode cX5_odds 47 = .ok (.istore 4, 2) := by decide +kernel
theorem dX5_odds_49 : decode cX5_odds 49 = .ok (.iconst 0, 1) := by decide +kernel
theorem dX5_odds_50 : decode cX5_odds 50 = .ok (.istore 5, 2) := by decide +kernel
theorem dX5_odds_52 : decode cX5_odds 52 = .ok (.iconst 0, 1) := by decide +kernel
theorem dX5_odds_53 : decode cX5_odds 53 = .ok (.istore 6, 2) := by decide +kernel
theorem dX5_odds_55 : decode cX5_odds 55 = .ok (.iload 6, 2) := by decide +kernel
theorem dX5_odds_57 : decode cX5_odds 57 = .ok (.iload 4, 2) := by decide +kernel
theorem dX5_odds_59 : decode cX5_odds 59 = .ok (.if_icmp .ge 25, 3) := by decide +kernel
theorem dX5_odds_62 : decode cX5_odds 62 = .ok (.aload_n 0, 1) := by decide +kernel
theorem dX5_odds_63 : decode cX5_odds 63 = .ok (.iload 6, 2) := by decide +kernel
theorem dX5_odds_65 : decode cX5_odds 65 = .ok (.invokestatic 183, 3) := by decide +kernel
theorem dX5_odds_68 : decode cX5_odds 68 = .ok (.invokevirtual 188, 3) := by decide +kernel
theorem dX5_odds_71 : decode cX5_odds 71 = .ok (.iload_n 2, 1) := by decide +kernel
theorem dX5_odds_72 : decode cX5_odds 72 = .ok (.if_icmp .lt 6, 3) := by decide +kernel
theorem dX5_odds_75 : decode cX5_odds 75 = .ok (.iinc 5 1, 3) := by decide +kernel
theorem dX5_odds_78 : decode cX5_odds 78 = .ok (.iinc 6 1, 3) := by decide +kernel
theorem dX5_odds_81 : decode cX5_odds 81 = .ok (.goto (-26), 3) := by decide +kernel
theorem dX5_odds_84 : decode cX5_odds 84 = .ok (.iload 5, 2) := by decide +kernel
theorem dX5_odds_86 : decode cX5_odds 86 = .ok (.iload 4, 2) := by decide +kernel
theorem dX5_odds_88 : decode cX5_odds 88 = .ok (.invokestatic 191, 3) := by decide +kernel
theorem dX5_odds_91 : decode cX5_odds 91 = .ok (.istore 6, 2) := by decide +kernel
theorem dX5_odds_93 : decode cX5_odds 93 = .ok (.iload 6, 2) := by decide +kernel
theorem dX5_odds_95 : decode cX5_odds 95 = .ok (.iconst 1, 1) := by decide +kernel
theorem dX5_odds_96 : decode cX5_odds 96 = .ok (.if_icmp .ge 7, 3) := by decide +kernel
theorem dX5_odds_99 : decode cX5_odds 99 = .ok (.ldc2_w 181, 3) := by decide +kernel
theorem dX5_odds_102 : decode cX5_odds 102 = .ok (.lreturn, 1) := by decide +kernel
theorem dX5_odds_103 : decode cX5_odds 103 = .ok (.iload_n 3, 1) := by decide +kernel
theorem dX5_odds_104 : decode cX5_odds 104 = .ok (.ifCond .ne 12, 3) := by decide +kernel
theorem dX5_odds_107 : decode cX5_odds 107 = .ok (.iload 5, 2) := by decide +kernel
theorem dX5_odds_109 : decode cX5_odds 109 = .ok (.iload 6, 2) := by decide +kernel
theorem dX5_odds_111 : decode cX5_odds 111 = .ok (.idiv, 1) := by decide +kernel
theorem dX5_odds_112 : decode cX5_odds 112 = .ok (.i2l, 1) := by decide +kernel
theorem dX5_odds_113 : decode cX5_odds 113 = .ok (.goto 9, 3) := by decide +kernel
theorem dX5_odds_116 : decode cX5_odds 116 = .ok (.iload 4, 2) := by decide +kernel
theorem dX5_odds_118 : decode cX5_odds 118 = .ok (.iload 6, 2) := by decide +kernel
theorem dX5_odds_120 : decode cX5_odds 120 = .ok (.idiv, 1) := by decide +kernel
theorem dX5_odds_121 : decode cX5_odds 121 = .ok (.i2l, 1) := by decide +kernel
theorem dX5_odds_122 : decode cX5_odds 122 = .ok (.lreturn, 1) := by decide +kernel
set_option maxRecDepth 20000 in
theorem ggX5_levelBehindRain_X0_levelOf : GoodIn wsX5_levelBehindRain wsX0_levelOf := goodIn_r _ [11, 12, 13, 14, 15, 10, 16, 17, 25, 26, 27, 28, 29] (by decide +kernel) (by decide +kernel)
set_option maxRecDepth 20000 in
theorem gX5_levelBehindRain_X0_levelOf : GoodIn wsX5_levelBehindRain (wsV RX5 82 RX0 yX0_levelOf wsX0_levelOf) := goodIn_app (goodIn_of _ (by decide +kernel)) ggX5_levelBehindRain_X0_levelOf
theorem dX5_levelBehindRain_0 : decode cX5_levelBehindRain 0 = .ok (.bipush 9, 2) := by decide +kernel
theorem dX5_levelBehindRain_2 : decode cX5_levelBehindRain 2 = .ok (.aload_n 0, 1) := by decide +kernel
theorem dX5_levelBehindRain_3 : decode cX5_levelBehindRain 3 = .ok (.getfield 20, 3) := by decide +kernel
theorem dX5_levelBehindRain_6 : decode cX5_levelBehindRain 6 = .ok (.iconst 0, 1) := by decide +kernel
theorem dX5_levelBehindRain_7 : decode cX5_levelBehindRain 7 = .ok (.invokevirtual 82, 3) := by decide +kernel
theorem dX5_levelBehindRain_10 : decode cX5_levelBehindRain 10 = .ok (.iload_n 1, 1) := by decide +kernel
theorem dX5_levelBehindRain_11 : decode cX5_levelBehindRain 11 = .ok (.aload_n 0, 1) := by decide +kernel
theorem dX5_levelBehindRain_12 : decode cX5_levelBehindRain 12 = .ok (.getfield 20, 3) := by decide +kernel
theorem dX5_levelBehindRain_15 : decode cX5_levelBehindRain 15 = .ok (.getfield 103, 3) := by decide +kernel
theorem dX5_levelBehindRain_18 : decode cX5_levelBehindRain 18 = .ok (.imul, 1) := by decide +kernel
theorem dX5_levelBehindRain_19 : decode cX5_levelBehindRain 19 = .ok (.iadd, 1) := by decide +kernel
theorem dX5_levelBehindRain_20 : decode cX5_levelBehindRain 20 = .ok (.invokestatic 195, 3) := by decide +kernel
theorem dX5_levelBehindRain_23 : decode cX5_levelBehindRain 23 = .ok (.ireturn, 1) := by decide +kernel
theorem dX5_greatestCommon_0 : decode cX5_greatestCommon 0 = .ok (.iload_n 0, 1) := by decide +kernel
theorem dX5_greatestCommon_1 : decode cX5_greatestCommon 1 = .ok (.istore_n 2, 1) := by decide +kernel
theorem dX5_greatestCommon_2 : decode cX5_greatestCommon 2 = .ok (.iload_n 1, 1) := by decide +kernel
theorem dX5_greatestCommon_3 : decode cX5_greatestCommon 3 = .ok (.istore_n 3, 1) := by decide +kernel
theorem dX5_greatestCommon_4 : decode cX5_greatestCommon 4 = .ok (.iconst 0, 1) := by decide +kernel
theorem dX5_greatestCommon_5 : decode cX5_greatestCommon 5 = .ok (.istore 4, 2) := by decide +kernel
theorem dX5_greatestCommon_7 : decode cX5_greatestCommon 7 = .ok (.iload 4, 2) := by decide +kernel
theorem dX5_greatestCommon_9 : decode cX5_greatestCommon 9 = .ok (.bipush 64, 2) := by decide +kernel
theorem dX5_greatestCommon_11 : decode cX5_greatestCommon 11 = .ok (.if_icmp .ge 23, 3) := by decide +kernel
theorem dX5_greatestCommon_14 : decode cX5_greatestCommon 14 = .ok (.iload_n 3, 1) := by decide +kernel
theorem dX5_greatestCommon_15 : decode cX5_greatestCommon 15 = .ok (.ifCond .le 19, 3) := by decide +kernel
theorem dX5_greatestCommon_18 : decode cX5_greatestCommon 18 = .ok (.iload_n 2, 1) := by decide +kernel
theorem dX5_greatestCommon_19 : decode cX5_greatestCommon 19 = .ok (.iload_n 3, 1) := by decide +kernel
theorem dX5_greatestCommon_20 : decode cX5_greatestCommon 20 = .ok (.irem, 1) := by decide +kernel
theorem dX5_greatestCommon_21 : decode cX5_greatestCommon 21 = .ok (.istore 5, 2) := by decide +kernel
theorem dX5_greatestCommon_23 : decode cX5_greatestCommon 23 = .ok (.iload_n 3, 1) := by decide +kernel
theorem dX5_greatestCommon_24 : decode cX5_greatestCommon 24 = .ok (.istore_n 2, 1) := by decide +kernel
theorem dX5_greatestCommon_25 : decode cX5_greatestCommon 25 = .ok (.iload 5, 2) := by decide +kernel
theorem dX5_greatestCommon_27 : decode cX5_greatestCommon 27 = .ok (.istore_n 3, 1) := by decide +kernel
theorem dX5_greatestCommon_28 : decode cX5_greatestCommon 28 = .ok (.iinc 4 1, 3) := by decide +kernel
theorem dX5_greatestCommon_31 : decode cX5_greatestCommon 31 = .ok (.goto (-24), 3) := by decide +kernel
theorem dX5_greatestCommon_34 : decode cX5_greatestCommon 34 = .ok (.iload_n 2, 1) := by decide +kernel
theorem dX5_greatestCommon_35 : decode cX5_greatestCommon 35 = .ok (.ireturn, 1) := by decide +kernel
set_option maxRecDepth 20000 in
theorem ggX5_sheet_X5_sheetAt : GoodIn wsX5_sheet wsX5_sheetAt := goodIn_r _ [6, 7, 28, 29, 30, 31, 32, 33, 34] (by decide +kernel) (by decide +kernel)
set_option maxRecDepth 20000 in
theorem gX5_sheet_X5_sheetAt : GoodIn wsX5_sheet (wsV RX5 46 RX5 yX5_sheetAt wsX5_sheetAt) := goodIn_app (goodIn_of _ (by decide +kernel)) ggX5_sheet_X5_sheetAt
set_option maxRecDepth 20000 in
theorem ggX5_sheet_X5_isLane : GoodIn wsX5_sheet wsX5_isLane := goodIn_r _ [10] (by decide +kernel) (by decide +kernel)
set_option maxRecDepth 20000 in
theorem gX5_sheet_X5_isLane : GoodIn wsX5_sheet (va_wsS RX5 50 yX5_isLane wsX5_isLane) := goodIn_app (goodIn_of _ (by decide +kernel)) ggX5_sheet_X5_isLane
set_option maxRecDepth 20000 in
theorem ggX5_sheet_X5_faulted : GoodIn wsX5_sheet wsX5_faulted := goodIn_r _ [14, 1, 28, 29, 30, 31, 32, 33, 34] (by decide +kernel) (by decide +kernel)
set_option maxRecDepth 20000 in
theorem gX5_sheet_X5_faulted : GoodIn wsX5_sheet (wsV RX5 58 RX5 yX5_faulted wsX5_faulted) := goodIn_app (goodIn_of _ (by decide +kernel)) ggX5_sheet_X5_faulted
set_option maxRecDepth 20000 in
theorem ggX5_sheet_X3_becomeNew : GoodIn wsX5_sheet wsX3_becomeNew := goodIn_r _ [19, 20, 21, 22, 23, 24, 25, 26, 27, 35, 36, 37, 38] (by decide +kernel) (by decide +kernel)
set_option maxRecDepth 20000 in
theorem gX5_sheet_X3_becomeNew : GoodIn wsX5_sheet (wsV RX5 200 RX3 yX3_becomeNew wsX3_becomeNew) := goodIn_app (goodIn_of _ (by decide +kernel)) ggX5_sheet_X3_becomeNew
theorem dX5_sheet_0 : decode cX5_sheet 0 = .ok (.aload_n 0, 1) := by decide +kernel
theorem dX5_sheet_1 : decode cX5_sheet 1 = .ok (.iconst 0, 1) := by decide +kernel
theorem dX5_sheet_2 : decode cX5_sheet 2 = .ok (.putfield 42, 3) := by decide +kernel
theorem dX5_sheet_5 : decode cX5_sheet 5 = .ok (.aload_n 0, 1) := by decide +kernel
theorem dX5_sheet_6 : decode cX5_sheet 6 = .ok (.iload_n 1, 1) := by decide +kernel
theorem dX5_sheet_7 : decode cX5_sheet 7 = .ok (.invokevirtual 46, 3) := by decide +kernel
theorem dX5_sheet_10 : decode cX5_sheet 10 = .ok (.astore 4, 2) := by decide +kernel
theorem dX5_sheet_12 : decode cX5_sheet 12 = .ok (.aload 4, 2) := by decide +kernel
theorem dX5_sheet_14 : decode cX5_sheet 14 = .ok (.ifnonnull 5, 3) := by decide +kernel
theorem dX5_sheet_17 : decode cX5_sheet 17 = .ok (.iconst (-1), 1) := by decide +kernel
theorem dX5_sheet_18 : decode cX5_sheet 18 = .ok (.ireturn, 1) := by decide +kernel
theorem dX5_sheet_19 : decode cX5_sheet 19 = .ok (.iload_n 2, 1) := by decide +kernel
theorem dX5_sheet_20 : decode cX5_sheet 20 = .ok (.invokestatic 50, 3) := by decide +kernel
theorem dX5_sheet_23 : decode cX5_sheet 23 = .ok (.ifCond .eq 9, 3) := by decide +kernel
theorem dX5_sheet_26 : decode cX5_sheet 26 = .ok (.iload_n 3, 1) := by decide +kernel
theorem dX5_sheet_27 : decode cX5_sheet 27 = .ok (.bipush 60, 2) := by decide +kernel
theorem dX5_sheet_29 : decode cX5_sheet 29 = .ok (.if_icmp .le 6, 3) := by decide +kernel
theorem dX5_sheet_32 : decode cX5_sheet 32 = .ok (.bipush (-2), 2) := by decide +kernel
theorem dX5_sheet_34 : decode cX5_sheet 34 = .ok (.ireturn, 1) := by decide +kernel
theorem dX5_sheet_35 : decode cX5_sheet 35 = .ok (.iload_n 3, 1) := by decide +kernel
theorem dX5_sheet_36 : decode cX5_sheet 36 = .ok (.ifCond .ge 9, 3) := by decide +kernel
theorem dX5_sheet_39 : decode cX5_sheet 39 = .ok (.aload_n 0, 1) := by decide +kernel
theorem dX5_sheet_40 : decode cX5_sheet 40 = .ok (.iconst 4, 1) := by decide +kernel
theorem dX5_sheet_41 : decode cX5_sheet 41 = .ok (.invokevirtual 58, 3) := by decide +kernel
theorem dX5_sheet_44 : decode cX5_sheet 44 = .ok (.ireturn, 1) := by decide +kernel
theorem dX5_sheet_45 : decode cX5_sheet 45 = .ok (.aload 4, 2) := by decide +kernel
theorem dX5_sheet_47 : decode cX5_sheet 47 = .ok (.iload_n 2, 1) := by decide +kernel
theorem dX5_sheet_48 : decode cX5_sheet 48 = .ok (.iload_n 3, 1) := by decide +kernel
theorem dX5_sheet_49 : decode cX5_sheet 49 = .ok (.invokevirtual 200, 3) := by decide +kernel
theorem dX5_sheet_52 : decode cX5_sheet 52 = .ok (.iconst 1, 1) := by decide +kernel
theorem dX5_sheet_53 : decode cX5_sheet 53 = .ok (.ireturn, 1) := by decide +kernel
set_option maxRecDepth 20000 in
theorem ggX5_lose_X5_sheetAt : GoodIn wsX5_lose wsX5_sheetAt := goodIn_r _ [6, 7, 12, 13, 14, 15, 16, 17, 18] (by decide +kernel) (by decide +kernel)
set_option maxRecDepth 20000 in
theorem gX5_lose_X5_sheetAt : GoodIn wsX5_lose (wsV RX5 46 RX5 yX5_sheetAt wsX5_sheetAt) := goodIn_app (goodIn_of _ (by decide +kernel)) ggX5_lose_X5_sheetAt
theorem dX5_lose_0 : decode cX5_lose 0 = .ok (.aload_n 0, 1) := by decide +kernel
theorem dX5_lose_1 : decode cX5_lose 1 = .ok (.iload_n 1, 1) := by decide +kernel
theorem dX5_lose_2 : decode cX5_lose 2 = .ok (.invokevirtual 46, 3) := by decide +kernel
theorem dX5_lose_5 : decode cX5_lose 5 = .ok (.astore_n 2, 1) := by decide +kernel
theorem dX5_lose_6 : decode cX5_lose 6 = .ok (.aload_n 2, 1) := by decide +kernel
theorem dX5_lose_7 : decode cX5_lose 7 = .ok (.ifnonnull 5, 3) := by decide +kernel
theorem dX5_lose_10 : decode cX5_lose 10 = .ok (.iconst (-1), 1) := by decide +kernel
theorem dX5_lose_11 : decode cX5_lose 11 = .ok (.ireturn, 1) := by decide +kernel
theorem dX5_lose_12 : decode cX5_lose 12 = .ok (.aload_n 2, 1) := by decide +kernel
theorem dX5_lose_13 : decode cX5_lose 13 = .ok (.getfield 203, 3) := by decide +kernel
theorem dX5_lose_16 : decode cX5_lose 16 = .ok (.ifCond .eq 7, 3) := by decide +kernel
theorem dX5_lose_19 : decode cX5_lose 19 = .ok (.iconst 1, 1) := by decide +kernel
theorem dX5_lose_20 : decode cX5_lose 20 = .ok (.goto 4, 3) := by decide +kernel
theorem dX5_lose_23 : decode cX5_lose 23 = .ok (.iconst 0, 1) := by decide +kernel
theorem dX5_lose_24 : decode cX5_lose 24 = .ok (.istore_n 3, 1) := by decide +kernel
theorem dX5_lose_25 : decode cX5_lose 25 = .ok (.aload_n 2, 1) := by decide +kernel
theorem dX5_lose_26 : decode cX5_lose 26 = .ok (.iconst 0, 1) := by decide +kernel
theorem dX5_lose_27 : decode cX5_lose 27 = .ok (.putfield 203, 3) := by decide +kernel
theorem dX5_lose_30 : decode cX5_lose 30 = .ok (.iload_n 3, 1) := by decide +kernel
theorem dX5_lose_31 : decode cX5_lose 31 = .ok (.ireturn, 1) := by decide +kernel
set_option maxRecDepth 20000 in
theorem ggX5_put_X5_sheetAt : GoodIn wsX5_put wsX5_sheetAt := goodIn_r _ [7, 8, 34, 35, 36, 37, 38, 39, 40] (by decide +kernel) (by decide +kernel)
set_option maxRecDepth 20000 in
theorem gX5_put_X5_sheetAt : GoodIn wsX5_put (wsV RX5 46 RX5 yX5_sheetAt wsX5_sheetAt) := goodIn_app (goodIn_of _ (by decide +kernel)) ggX5_put_X5_sheetAt
set_option maxRecDepth 20000 in
theorem ggX5_put_X3_faultOf : GoodIn wsX5_put wsX3_faultOf := goodIn_r _ [13, 14, 15, 16, 17, 18, 12, 19, 20, 21, 41, 42, 43, 44] (by decide +kernel) (by decide +kernel)
set_option maxRecDepth 20000 in
theorem gX5_put_X3_faultOf : GoodIn wsX5_put (wsV RX5 54 RX3 yX3_faultOf wsX3_faultOf) := goodIn_app (goodIn_of _ (by decide +kernel)) ggX5_put_X3_faultOf
set_option maxRecDepth 20000 in
theorem ggX5_put_X5_faulted : GoodIn wsX5_put wsX5_faulted := goodIn_r _ [25, 1, 34, 35, 36, 37, 38, 39, 40] (by decide +kernel) (by decide +kernel)
set_option maxRecDepth 20000 in
theorem gX5_put_X5_faulted : GoodIn wsX5_put (wsV RX5 58 RX5 yX5_faulted wsX5_faulted) := goodIn_app (goodIn_of _ (by decide +kernel)) ggX5_put_X5_faulted
set_option maxRecDepth 20000 in
theorem ggX5_put_X3_setCell : GoodIn wsX5_put wsX3_setCell := goodIn_r _ [29, 20, 21, 30, 31, 32, 12, 33, 15, 41, 42, 43, 44] (by decide +kernel) (by decide +kernel)
set_option maxRecDepth 20000 in
theorem gX5_put_X3_setCell : GoodIn wsX5_put (wsV RX5 210 RX3 yX3_setCell wsX3_setCell) := goodIn_app (goodIn_of _ (by decide +kernel)) ggX5_put_X3_setCell
theorem dX5_put_0 : decode cX5_put 0 = .ok (.aload_n 0, 1) := by decide +kernel
theorem dX5_put_1 : decode cX5_put 1 = .ok (.iconst 0, 1) := by decide +kernel
theorem dX5_put_2 : decode cX5_put 2 = .ok (.putfield 42, 3) := by decide +kernel
theorem dX5_put_5 : decode cX5_put 5 = .ok (.aload_n 0, 1) := by decide +kernel
theorem dX5_put_6 : decode cX5_put 6 = .ok (.iload_n 1, 1) := by decide +kernel
theorem dX5_put_7 : decode cX5_put 7 = .ok (.invokevirtual 46, 3) := by decide +kernel
theorem dX5_put_10 : decode cX5_put 10 = .ok (.astore 4, 2) := by decide +kernel
theorem dX5_put_12 : decode cX5_put 12 = .ok (.aload 4, 2) := by decide +kernel
theorem dX5_put_14 : decode cX5_put 14 = .ok (.ifnonnull 5, 3) := by decide +kernel
theorem dX5_put_17 : decode cX5_put 17 = .ok (.iconst (-1), 1) := by decide +kernel
theorem dX5_put_18 : decode cX5_put 18 = .ok (.ireturn, 1) := by decide +kernel
theorem dX5_put_19 : decode cX5_put 19 = .ok (.aload 4, 2) := by decide +kernel
theorem dX5_put_21 : decode cX5_put 21 = .ok (.aload 4, 2) := by decide +kernel
theorem dX5_put_23 : decode cX5_put 23 = .ok (.getfield 207, 3) := by decide +kernel
theorem dX5_put_26 : decode cX5_put 26 = .ok (.iload_n 2, 1) := by decide +kernel
theorem dX5_put_27 : decode cX5_put 27 = .ok (.iconst 1, 1) := by decide +kernel
theorem dX5_put_28 : decode cX5_put 28 = .ok (.invokevirtual 54, 3) := by decide +kernel
theorem dX5_put_31 : decode cX5_put 31 = .ok (.istore 5, 2) := by decide +kernel
theorem dX5_put_33 : decode cX5_put 33 = .ok (.iload 5, 2) := by decide +kernel
theorem dX5_put_35 : decode cX5_put 35 = .ok (.ifCond .eq 10, 3) := by decide +kernel
theorem dX5_put_38 : decode cX5_put 38 = .ok (.aload_n 0, 1) := by decide +kernel
theorem dX5_put_39 : decode cX5_put 39 = .ok (.iload 5, 2) := by decide +kernel
theorem dX5_put_41 : decode cX5_put 41 = .ok (.invokevirtual 58, 3) := by decide +kernel
theorem dX5_put_44 : decode cX5_put 44 = .ok (.ireturn, 1) := by decide +kernel
theorem dX5_put_45 : decode cX5_put 45 = .ok (.aload 4, 2) := by decide +kernel
theorem dX5_put_47 : decode cX5_put 47 = .ok (.iload_n 2, 1) := by decide +kernel
theorem dX5_put_48 : decode cX5_put 48 = .ok (.iload_n 3, 1) := by decide +kernel
theorem dX5_put_49 : decode cX5_put 49 = .ok (.invokevirtual 210, 3) := by decide +kernel
theorem dX5_put_52 : decode cX5_put 52 = .ok (.iconst 1, 1) := by decide +kernel
theorem dX5_put_53 : decode cX5_put 53 = .ok (.ireturn, 1) := by decide +kernel
set_option maxRecDepth 20000 in
theorem ggX5_cell_X5_sheetAt : GoodIn wsX5_cell wsX5_sheetAt := goodIn_r _ [7, 8, 29, 30, 31, 32, 33, 34, 35] (by decide +kernel) (by decide +kernel)
set_option maxRecDepth 20000 in
theorem gX5_cell_X5_sheetAt : GoodIn wsX5_cell (wsV RX5 46 RX5 yX5_sheetAt wsX5_sheetAt) := goodIn_app (goodIn_of _ (by decide +kernel)) ggX5_cell_X5_sheetAt
set_option maxRecDepth 20000 in
theorem ggX5_cell_X5_isLane : GoodIn wsX5_cell wsX5_isLane := goodIn_r _ [11] (by decide +kernel) (by decide +kernel)
set_option maxRecDepth 20000 in
theorem gX5_cell_X5_isLane : GoodIn wsX5_cell (va_wsS RX5 50 yX5_isLane wsX5_isLane) := goodIn_app (goodIn_of _ (by decide +kernel)) ggX5_cell_X5_isLane
set_option maxRecDepth 20000 in
theorem ggX5_cell_X3_faultOf : GoodIn wsX5_cell wsX3_faultOf := goodIn_r _ [16, 17, 18, 19, 20, 21, 15, 22, 23, 24, 36, 37, 38, 39] (by decide +kernel) (by decide +kernel)
set_option maxRecDepth 20000 in
theorem gX5_cell_X3_faultOf : GoodIn wsX5_cell (wsV RX5 54 RX3 yX3_faultOf wsX3_faultOf) := goodIn_app (goodIn_of _ (by decide +kernel)) ggX5_cell_X3_faultOf
set_option maxRecDepth 20000 in
theorem ggX5_cell_X3_cellAt : GoodIn wsX5_cell wsX3_cellAt := goodIn_r _ [28, 23, 24, 36, 37, 38, 39] (by decide +kernel) (by decide +kernel)
set_option maxRecDepth 20000 in
theorem gX5_cell_X3_cellAt : GoodIn wsX5_cell (wsV RX5 141 RX3 yX3_cellAt wsX3_cellAt) := goodIn_app (goodIn_of _ (by decide +kernel)) ggX5_cell_X3_cellAt
theorem dX5_cell_0 : decode cX5_cell 0 = .ok (.aload_n 0, 1) := by decide +kernel
theorem dX5_cell_1 : decode cX5_cell 1 = .ok (.iconst 0, 1) := by decide +kernel
theorem dX5_cell_2 : decode cX5_cell 2 = .ok (.putfield 42, 3) := by decide +kernel
theorem dX5_cell_5 : decode cX5_cell 5 = .ok (.aload_n 0, 1) := by decide +kernel
theorem dX5_cell_6 : decode cX5_cell 6 = .ok (.iload_n 1, 1) := by decide +kernel
theorem dX5_cell_7 : decode cX5_cell 7 = .ok (.invokevirtual 46, 3) := by decide +kernel
theorem dX5_cell_10 : decode cX5_cell 10 = .ok (.astore 4, 2) := by decide +kernel
theorem dX5_cell_12 : decode cX5_cell 12 = .ok (.aload 4, 2) := by decide +kernel
theorem dX5_cell_14 : decode cX5_cell 14 = .ok (.ifnull 10, 3) := by decide +kernel
theorem dX5_cell_17 : decode cX5_cell 17 = .ok (.iload_n 3, 1) := by decide +kernel
theorem dX5_cell_18 : decode cX5_cell 18 = .ok (.invokestatic 50, 3) := by decide +kernel
theorem dX5_cell_21 : decode cX5_cell 21 = .ok (.ifCond .ne 7, 3) := by decide +kernel
theorem dX5_cell_24 : decode cX5_cell 24 = .ok (.ldc2_w 181, 3) := by decide +kernel
theorem dX5_cell_27 : decode cX5_cell 27 = .ok (.lreturn, 1) := by decide +kernel
theorem dX5_cell_28 : decode cX5_cell 28 = .ok (.aload_n 0, 1) := by decide +kernel
theorem dX5_cell_29 : decode cX5_cell 29 = .ok (.aload 4, 2) := by decide +kernel
theorem dX5_cell_31 : decode cX5_cell 31 = .ok (.iload_n 3, 1) := by decide +kernel
theorem dX5_cell_32 : decode cX5_cell 32 = .ok (.iload_n 2, 1) := by decide +kernel
theorem dX5_cell_33 : decode cX5_cell 33 = .ok (.iconst 1, 1) := by decide +kernel
theorem dX5_cell_34 : decode cX5_cell 34 = .ok (.invokevirtual 54, 3) := by decide +kernel
theorem dX5_cell_37 : decode cX5_cell 37 = .ok (.putfield 42, 3) := by decide +kernel
theorem dX5_cell_40 : decode cX5_cell 40 = .ok (.aload_n 0, 1) := by decide +kernel
theorem dX5_cell_41 : decode cX5_cell 41 = .ok (.getfield 42, 3) := by decide +kernel
theorem dX5_cell_44 : decode cX5_cell 44 = .ok (.ifCond .ne 13, 3) := by decide +kernel
theorem dX5_cell_47 : decode cX5_cell 47 = .ok (.aload 4, 2) := by decide +kernel
theorem dX5_cell_49 : decode cX5_cell 49 = .ok (.iload_n 2, 1) := by decide +kernel
theorem dX5_cell_50 : decode cX5_cell 50 = .ok (.invokevirtual 141, 3) := by decide +kernel
theorem dX5_cell_53 : decode cX5_cell 53 = .ok (.i2l, 1) := by decide +kernel
theorem dX5_cell_54 : decode cX5_cell 54 = .ok (.goto 6, 3) := by decide +kernel
theorem dX5_cell_57 : decode cX5_cell 57 = .ok (.ldc2_w 181, 3) := by decide +kernel
theorem dX5_cell_60 : decode cX5_cell 60 = .ok (.lreturn, 1) := by decide +kernel
set_option maxRecDepth 20000 in
theorem ggX5_copy_X5_sheetAt : GoodIn wsX5_copy wsX5_sheetAt := goodIn_r _ [13, 14, 26, 27, 28, 29, 30, 31, 32] (by decide +kernel) (by decide +kernel)
set_option maxRecDepth 20000 in
theorem gX5_copy_X5_sheetAt : GoodIn wsX5_copy (wsV RX5 46 RX5 yX5_sheetAt wsX5_sheetAt) := goodIn_app (goodIn_of _ (by decide +kernel)) ggX5_copy_X5_sheetAt
set_option maxRecDepth 20000 in
theorem ggX5_copy_X5_faulted : GoodIn wsX5_copy wsX5_faulted := goodIn_r _ [18, 1, 26, 27, 28, 29, 30, 31, 32] (by decide +kernel) (by decide +kernel)
set_option maxRecDepth 20000 in
theorem gX5_copy_X5_faulted : GoodIn wsX5_copy (wsV RX5 58 RX5 yX5_faulted wsX5_faulted) := goodIn_app (goodIn_of _ (by decide +kernel)) ggX5_copy_X5_faulted
set_option maxRecDepth 20000 in
theorem ggX5_copy_X3_hasCells : GoodIn wsX5_copy wsX3_hasCells := goodIn_r _ [23, 24, 25, 33, 34, 35, 36] (by decide +kernel) (by decide +kernel)
set_option maxRecDepth 20000 in
theorem gX5_copy_X3_hasCells : GoodIn wsX5_copy (wsV RX5 213 RX3 yX3_hasCells wsX3_hasCells) := goodIn_app (goodIn_of _ (by decide +kernel)) ggX5_copy_X3_hasCells
theorem dX5_copy_0 : decode cX5_copy 0 = .ok (.aload_n 0, 1) := by decide +kernel
theorem dX5_copy_1 : decode cX5_copy 1 = .ok (.iconst 0, 1) := by decide +kernel
theorem dX5_copy_2 : decode cX5_copy 2 = .ok (.putfield 42, 3) := by decide +kernel
theorem dX5_copy_5 : decode cX5_copy 5 = .ok (.aload_n 0, 1) := by decide +kernel
theorem dX5_copy_6 : decode cX5_copy 6 = .ok (.iload_n 1, 1) := by decide +kernel
theorem dX5_copy_7 : decode cX5_copy 7 = .ok (.invokevirtual 46, 3) := by decide +kernel
theorem dX5_copy_10 : decode cX5_copy 10 = .ok (.astore 6, 2) := by decide +kernel
theorem dX5_copy_12 : decode cX5_copy 12 = .ok (.aload_n 0, 1) := by decide +kernel
theorem dX5_copy_13 : decode cX5_copy 13 = .ok (.iload_n 3, 1) := by decide +kernel
theorem dX5_copy_14 : decode cX5_copy 14 = .ok (.invokevirtual 46, 3) := by decide +kernel
theorem dX5_copy_17 : decode cX5_copy 17 = .ok (.astore 7, 2) := by decide +kernel
theorem dX5_copy_19 : decode cX5_copy 19 = .ok (.aload 6, 2) := by decide +kernel
theorem dX5_copy_21 : decode cX5_copy 21 = .ok (.ifnull 8, 3) := by decide +kernel
theorem dX5_copy_24 : decode cX5_copy 24 = .ok (.aload 7, 2) := by decide +kernel
theorem dX5_copy_26 : decode cX5_copy 26 = .ok (.ifnonnull 5, 3) := by decide +kernel
theorem dX5_copy_29 : decode cX5_copy 29 = .ok (.iconst (-1), 1) := by decide +kernel
theorem dX5_copy_30 : decode cX5_copy 30 = .ok (.ireturn, 1) := by decide +kernel
theorem dX5_copy_31 : decode cX5_copy 31 = .ok (.aload 6, 2) := by decide +kernel
theorem dX5_copy_33 : decode cX5_copy 33 = .ok (.getfield 203, 3) := by decide +kernel
theorem dX5_copy_36 : decode cX5_copy 36 = .ok (.ifCond .eq 11, 3) := by decide +kernel
theorem dX5_copy_39 : decode cX5_copy 39 = .ok (.aload 7, 2) := by decide +kernel
theorem dX5_copy_41 : decode cX5_copy 41 = .ok (.getfield 203, 3) := by decide +kernel
theorem dX5_copy_44 : decode cX5_copy 44 = .ok (.ifCond .ne 9, 3) := by decide +kernel
theorem dX5_copy_47 : decode cX5_copy 47 = .ok (.aload_n 0, 1) := by decide +kernel
theorem dX5_copy_48 : decode cX5_copy 48 = .ok (.iconst 1, 1) := by decide +kernel
theorem dX5_copy_49 : decode cX5_copy 49 = .ok (.invokevirtual 58, 3) := by decide +kernel
theorem dX5_copy_52 : decode cX5_copy 52 = .ok (.ireturn, 1) := by decide +kernel
theorem dX5_copy_53 : decode cX5_copy 53 = .ok (.aload 6, 2) := by decide +kernel
theorem dX5_copy_55 : decode cX5_copy 55 = .ok (.getfield 207, 3) := by decide +kernel
theorem dX5_copy_58 : decode cX5_copy 58 = .ok (.aload 7, 2) := by decide +kernel
theorem dX5_copy_60 : decode cX5_copy 60 = .ok (.getfield 207, 3) := by decide +kernel
theorem dX5_copy_63 : decode cX5_copy 63 = .ok (.if_icmp .eq 9, 3) := by decide +kernel
theorem dX5_copy_66 : decode cX5_copy 66 = .ok (.aload_n 0, 1) := by decide +kernel
theorem dX5_copy_67 : decode cX5_copy 67 = .ok (.iconst 2, 1) := by decide +kernel
theorem dX5_copy_68 : decode cX5_copy 68 = .ok (.invokevirtual 58, 3) := by decide +kernel
theorem dX5_copy_71 : decode cX5_copy 71 = .ok (.ireturn, 1) := by decide +kernel
theorem dX5_copy_72 : decode cX5_copy 72 = .ok (.aload 6, 2) := by decide +kernel
theorem dX5_copy_74 : decode cX5_copy 74 = .ok (.iload_n 2, 1) := by decide +kernel
theorem dX5_copy_75 : decode cX5_copy 75 = .ok (.iload 5, 2) := by decide +kernel
theorem dX5_copy_77 : decode cX5_copy 77 = .ok (.invokevirtual 213, 3) := by decide +kernel
theorem dX5_copy_80 : decode cX5_copy 80 = .ok (.ifCond .eq 15, 3) := by decide +kernel
theorem dX5_copy_83 : decode cX5_copy 83 = .ok (.aload 7, 2) := by decide +kernel
theorem dX5_copy_85 : decode cX5_copy 85 = .ok (.iload 4, 2) := by decide +kernel
theorem dX5_copy_87 : decode cX5_copy 87 = .ok (.iload 5, 2) := by decide +kernel
theorem dX5_copy_89 : decode cX5_copy 89 = .ok (.invokevirtual 213, 3) := by decide +kernel
theorem dX5_copy_92 : decode cX5_copy 92 = .ok (.ifCond .ne 9, 3) := by decide +kernel
theorem dX5_copy_95 : decode cX5_copy 95 = .ok (.aload_n 0, 1) := by decide +kernel
theorem dX5_copy_96 : decode cX5_copy 96 = .ok (.iconst 3, 1) := by decide +kernel
theorem dX5_copy_97 : decode cX5_copy 97 = .ok (.invokevirtual 58, 3) := by decide +kernel
theorem dX5_copy_100 : decode cX5_copy 100 = .ok (.ireturn, 1) := by decide +kernel
theorem dX5_copy_101 : decode cX5_copy 101 = .ok (.aload 6, 2) := by decide +kernel
theorem dX5_copy_103 : decode cX5_copy 103 = .ok (.getfield 216, 3) := by decide +kernel
theorem dX5_copy_106 : decode cX5_copy 106 = .ok (.iload_n 2, 1) := by decide +kernel
theorem dX5_copy_107 : decode cX5_copy 107 = .ok (.aload 7, 2) := by decide +kernel
theorem dX5_copy_109 : decode cX5_copy 109 = .ok (.getfield 216, 3) := by decide +kernel
theorem dX5_copy_112 : decode cX5_copy 112 = .ok (.iload 4, 2) := by decide +kernel
theorem dX5_copy_114 : decode cX5_copy 114 = .ok (.iload 5, 2) := by decide +kernel
theorem dX5_copy_116 : decode cX5_copy 116 = .ok (.invokestatic 220, 3) := by decide +kernel
theorem dX5_copy_119 : decode cX5_copy 119 = .ok (.iload 5, 2) := by decide +kernel
theorem dX5_copy_121 : decode cX5_copy 121 = .ok (.ireturn, 1) := by decide +kernel
set_option maxRecDepth 20000 in
theorem ggX5_tell_X0_has : GoodIn wsX5_tell wsX0_has := goodIn_r _ [6, 7, 44, 45, 46, 47, 48] (by decide +kernel) (by decide +kernel)
set_option maxRecDepth 20000 in
theorem gX5_tell_X0_has : GoodIn wsX5_tell (wsV RX5 76 RX0 yX0_has wsX0_has) := goodIn_app (goodIn_of _ (by decide +kernel)) ggX5_tell_X0_has
set_option maxRecDepth 20000 in
theorem ggX5_tell_X0_kindOf : GoodIn wsX5_tell wsX0_kindOf := goodIn_r _ [11, 12, 13, 3, 4, 5, 6, 7, 44, 45, 46, 47, 48] (by decide +kernel) (by decide +kernel)
set_option maxRecDepth 20000 in
theorem gX5_tell_X0_kindOf : GoodIn wsX5_tell (wsV RX5 79 RX0 yX0_kindOf wsX0_kindOf) := goodIn_app (goodIn_of _ (by decide +kernel)) ggX5_tell_X0_kindOf
set_option maxRecDepth 20000 in
theorem ggX5_tell_X5_tellingOfSulky : GoodIn wsX5_tell wsX5_tellingOfSulky := goodIn_r _ [18, 19, 20, 21, 17, 22, 23, 24, 25, 26, 27, 28, 29, 30, 31, 1, 32, 33, 34, 5, 35, 36, 13, 3, 4, 6, 7, 37, 38, 39, 40, 41, 42, 43, 44, 45, 46, 47, 48] (by decide +kernel) (by decide +kernel)
set_option maxRecDepth 20000 in
theorem gX5_tell_X5_tellingOfSulky : GoodIn wsX5_tell (wsV RX5 226 RX5 yX5_tellingOfSulky wsX5_tellingOfSulky) := goodIn_app (goodIn_of _ (by decide +kernel)) ggX5_tell_X5_tellingOfSulky
set_option maxRecDepth 20000 in
theorem ggX5_tell_X5_tellingOfProud : GoodIn wsX5_tell wsX5_tellingOfProud := goodIn_r _ [27, 19, 20, 21, 17, 22, 23, 28, 29, 30, 31, 1, 32, 33, 34, 5, 35, 36, 13, 3, 4, 6, 7, 37, 38, 39, 40, 41, 42, 43, 44, 45, 46, 47, 48] (by decide +kernel) (by decide +kernel)
set_option maxRecDepth 20000 in
theorem gX5_tell_X5_tellingOfProud : GoodIn wsX5_tell (wsV RX5 229 RX5 yX5_tellingOfProud wsX5_tellingOfProud) := goodIn_app (goodIn_of _ (by decide +kernel)) ggX5_tell_X5_tellingOfProud
set_option maxRecDepth 20000 in
theorem ggX5_tell_X5_tellingOfMild : GoodIn wsX5_tell wsX5_tellingOfMild := goodIn_r _ [31, 1, 19, 20, 21, 17, 22, 23, 32, 33, 34, 5, 35, 36, 13, 3, 4, 6, 7, 37, 38, 39, 40, 41, 42, 43, 44, 45, 46, 47, 48] (by decide +kernel) (by decide +kernel)
set_option maxRecDepth 20000 in
theorem gX5_tell_X5_tellingOfMild : GoodIn wsX5_tell (wsV RX5 232 RX5 yX5_tellingOfMild wsX5_tellingOfMild) := goodIn_app (goodIn_of _ (by decide +kernel)) ggX5_tell_X5_tellingOfMild
theorem dX5_tell_0 : decode cX5_tell 0 = .ok (.aload_n 0, 1) := by decide +kernel
theorem dX5_tell_1 : decode cX5_tell 1 = .ok (.getfield 20, 3) := by decide +kernel
theorem dX5_tell_4 : decode cX5_tell 4 = .ok (.iload_n 1, 1) := by decide +kernel
theorem dX5_tell_5 : decode cX5_tell 5 = .ok (.invokevirtual 76, 3) := by decide +kernel
theorem dX5_tell_8 : decode cX5_tell 8 = .ok (.ifCond .ne 5, 3) := by decide +kernel
theorem dX5_tell_11 : decode cX5_tell 11 = .ok (.iconst (-1), 1) := by decide +kernel
theorem dX5_tell_12 : decode cX5_tell 12 = .ok (.ireturn, 1) := by decide +kernel
theorem dX5_tell_13 : decode cX5_tell 13 = .ok (.aload_n 0, 1) := by decide +kernel
theorem dX5_tell_14 : decode cX5_tell 14 = .ok (.getfield 20, 3) := by decide +kernel
theorem dX5_tell_17 : decode cX5_tell 17 = .ok (.iload_n 1, 1) := by decide +kernel
theorem dX5_tell_18 : decode cX5_tell 18 = .ok (.invokevirtual 79, 3) := by decide +kernel
theorem dX5_tell_21 : decode cX5_tell 21 = .ok (.lookupswitch 39 #[(1, 33), (2, 27)], 27) := by decide +kernel
theorem dX5_tell_48 : decode cX5_tell 48 = .ok (.aload_n 0, 1) := by decide +kernel
theorem dX5_tell_49 : decode cX5_tell 49 = .ok (.iload_n 1, 1) := by decide +kernel
theorem dX5_tell_50 : decode cX5_tell 50 = .ok (.invokevirtual 226, 3) := by decide +kernel
theorem dX5_tell_53 : decode cX5_tell 53 = .ok (.ireturn, 1) := by decide +kernel
theorem dX5_tell_54 : decode cX5_tell 54 = .ok (.aload_n 0, 1) := by decide +kernel
theorem dX5_tell_55 : decode cX5_tell 55 = .ok (.iload_n 1, 1) := by decide +kernel
theorem dX5_tell_56 : decode cX5_tell 56 = .ok (.invokevirtual 229, 3) := by decide +kernel
theorem dX5_tell_59 : decode cX5_tell 59 = .ok (.ireturn, 1) := by decide +kernel
theorem dX5_tell_60 : decode cX5_tell 60 = .ok (.aload_n 0, 1) := by decide +kernel
theorem dX5_tell_61 : decode cX5_tell 61 = .ok (.iload_n 1, 1) := by decide +kernel
theorem dX5_tell_62 : decode cX5_tell 62 = .ok (.invokevirtual 232, 3) := by decide +kernel
theorem dX5_tell_65 : decode cX5_tell 65 = .ok (.ireturn, 1) := by decide +kernel
set_option maxRecDepth 20000 in
theorem ggX5_tellingOfMild_X5_leave : GoodIn wsX5_tellingOfMild wsX5_leave := goodIn_r _ [6, 7, 19, 20, 21, 22, 23, 24, 25] (by decide +kernel) (by decide +kernel)
set_option maxRecDepth 20000 in
theorem gX5_tellingOfMild_X5_leave : GoodIn wsX5_tellingOfMild (wsV RX5 235 RX5 yX5_leave wsX5_leave) := goodIn_app (goodIn_of _ (by decide +kernel)) ggX5_tellingOfMild_X5_leave
set_option maxRecDepth 20000 in
theorem ggX5_tellingOfMild_X0_limitOf : GoodIn wsX5_tellingOfMild wsX0_limitOf := goodIn_r _ [12, 13, 14, 15, 16, 11, 17, 18, 26, 27, 28, 29, 30] (by decide +kernel) (by decide +kernel)
set_option maxRecDepth 20000 in
theorem gX5_tellingOfMild_X0_limitOf : GoodIn wsX5_tellingOfMild (wsV RX5 85 RX0 yX0_limitOf wsX0_limitOf) := goodIn_app (goodIn_of _ (by decide +kernel)) ggX5_tellingOfMild_X0_limitOf
theorem dX5_tellingOfMild_0 : decode cX5_tellingOfMild 0 = .ok (.aload_n 0, 1) := by decide +kernel
theorem dX5_tellingOfMild_1 : decode cX5_tellingOfMild 1 = .ok (.iconst 1, 1) := by decide +kernel
theorem dX5_tellingOfMild_2 : decode cX5_tellingOfMild 2 = .ok (.invokevirtual 235, 3) := by decide +kernel
theorem dX5_tellingOfMild_5 : decode cX5_tellingOfMild 5 = .ok (.aload_n 0, 1) := by decide +kernel
theorem dX5_tellingOfMild_6 : decode cX5_tellingOfMild 6 = .ok (.getfield 20, 3) := by decide +kernel
theorem dX5_tellingOfMild_9 : decode cX5_tellingOfMild 9 = .ok (.iload_n 1, 1) := by decide +kernel
theorem dX5_tellingOfMild_10 : decode cX5_tellingOfMild 10 = .ok (.invokevirtual 85, 3) := by decide +kernel
theorem dX5_tellingOfMild_13 : decode cX5_tellingOfMild 13 = .ok (.ireturn, 1) := by decide +kernel
set_option maxRecDepth 20000 in
theorem ggX5_tellingOfProud_X5_leave : GoodIn wsX5_tellingOfProud wsX5_leave := goodIn_r _ [5, 6, 23, 24, 25, 26, 27, 28, 29] (by decide +kernel) (by decide +kernel)
set_option maxRecDepth 20000 in
theorem gX5_tellingOfProud_X5_leave : GoodIn wsX5_tellingOfProud (wsV RX5 235 RX5 yX5_leave wsX5_leave) := goodIn_app (goodIn_of _ (by decide +kernel)) ggX5_tellingOfProud_X5_leave
set_option maxRecDepth 20000 in
theorem ggX5_tellingOfProud_X5_tellingOfMild : GoodIn wsX5_tellingOfProud wsX5_tellingOfMild := goodIn_r _ [10, 11, 1, 2, 3, 4, 5, 6, 12, 13, 14, 15, 16, 17, 18, 19, 20, 21, 22, 23, 24, 25, 26, 27, 28, 29, 30, 31, 32, 33, 34] (by decide +kernel) (by decide +kernel)
set_option maxRecDepth 20000 in
theorem gX5_tellingOfProud_X5_tellingOfMild : GoodIn wsX5_tellingOfProud (wsV RX5 232 RX5 yX5_tellingOfMild wsX5_tellingOfMild) := goodIn_app (goodIn_of _ (by decide +kernel)) ggX5_tellingOfProud_X5_tellingOfMild
theorem dX5_tellingOfProud_0 : decode cX5_tellingOfProud 0 = .ok (.aload_n 0, 1) := by decide +kernel
theorem dX5_tellingOfProud_1 : decode cX5_tellingOfProud 1 = .ok (.iconst 2, 1) := by decide +kernel
theorem dX5_tellingOfProud_2 : decode cX5_tellingOfProud 2 = .ok (.invokevirtual 235, 3) := by decide +kernel
theorem dX5_tellingOfProud_5 : decode cX5_tellingOfProud 5 = .ok (.aload_n 0, 1) := by decide +kernel
theorem dX5_tellingOfProud_6 : decode cX5_tellingOfProud 6 = .ok (.iload_n 1, 1) := by decide +kernel
theorem dX5_tellingOfProud_7 : decode cX5_tellingOfProud 7 = .ok (.invokevirtual 232, 3) := by decide +kernel
theorem dX5_tellingOfProud_10 : decode cX5_tellingOfProud 10 = .ok (.bipush 100, 2) := by decide +kernel
theorem dX5_tellingOfProud_12 : decode cX5_tellingOfProud 12 = .ok (.iadd, 1) := by decide +kernel
theorem dX5_tellingOfProud_13 : decode cX5_tellingOfProud 13 = .ok (.ireturn, 1) := by decide +kernel
set_option maxRecDepth 20000 in
theorem ggX5_tellingOfSulky_X5_leave : GoodIn wsX5_tellingOfSulky wsX5_leave := goodIn_r _ [5, 6, 27, 28, 29, 30, 31, 32, 33] (by decide +kernel) (by decide +kernel)
set_option maxRecDepth 20000 in
theorem gX5_tellingOfSulky_X5_leave : GoodIn wsX5_tellingOfSulky (wsV RX5 235 RX5 yX5_leave wsX5_leave) := goodIn_app (goodIn_of _ (by decide +kernel)) ggX5_tellingOfSulky_X5_leave
set_option maxRecDepth 20000 in
theorem ggX5_tellingOfSulky_X5_tellingOfProud : GoodIn wsX5_tellingOfSulky wsX5_tellingOfProud := goodIn_r _ [10, 1, 2, 3, 4, 5, 6, 11, 12, 13, 14, 15, 16, 17, 18, 19, 20, 21, 22, 23, 24, 25, 26, 27, 28, 29, 30, 31, 32, 33, 34, 35, 36, 37, 38] (by decide +kernel) (by decide +kernel)
set_option maxRecDepth 20000 in
theorem gX5_tellingOfSulky_X5_tellingOfProud : GoodIn wsX5_tellingOfSulky (wsV RX5 229 RX5 yX5_tellingOfProud wsX5_tellingOfProud) := goodIn_app (goodIn_of _ (by decide +kernel)) ggX5_tellingOfSulky_X5_tellingOfProud
set_option maxRecDepth 20000 in
theorem ggX5_tellingOfSulky_X5_tellingOfMild : GoodIn wsX5_tellingOfSulky wsX5_tellingOfMild := goodIn_r _ [14, 15, 1, 2, 3, 4, 5, 6, 16, 17, 18, 19, 20, 21, 22, 23, 24, 25, 26, 27, 28, 29, 30, 31, 32, 33, 34, 35, 36, 37, 38] (by decide +kernel) (by decide +kernel)
set_option maxRecDepth 20000 in
theorem gX5_tellingOfSulky_X5_tellingOfMild : GoodIn wsX5_tellingOfSulky (wsV RX5 232 RX5 yX5_tellingOfMild wsX5_tellingOfMild) := goodIn_app (goodIn_of _ (by decide +kernel)) ggX5_tellingOfSulky_X5_tellingOfMild
theorem dX5_tellingOfSulky_0 : decode cX5_tellingOfSulky 0 = .ok (.aload_n 0, 1) := by decide +kernel
theorem dX5_tellingOfSulky_1 : decode cX5_tellingOfSulky 1 = .ok (.iconst 3, 1) := by decide +kernel
theorem dX5_tellingOfSulky_2 : decode cX5_tellingOfSulky 2 = .ok (.invokevirtual 235, 3) := by decide +kernel
theorem dX5_tellingOfSulky_5 : decode cX5_tellingOfSulky 5 = .ok (.aload_n 0, 1) := by decide +kernel
theorem dX5_tellingOfSulky_6 : decode cX5_tellingOfSulky 6 = .ok (.iload_n 1, 1) := by decide +kernel
theorem dX5_tellingOfSulky_7 : decode cX5_tellingOfSulky 7 = .ok (.invokevirtual 229, 3) := by decide +kernel
theorem dX5_tellingOfSulky_10 : decode cX5_tellingOfSulky 10 = .ok (.istore_n 2, 1) := by decide +kernel
theorem dX5_tellingOfSulky_11 : decode cX5_tellingOfSulky 11 = .ok (.iload_n 2, 1) := by decide +kernel
theorem dX5_tellingOfSulky_12 : decode cX5_tellingOfSulky 12 = .ok (.aload_n 0, 1) := by decide +kernel
theorem dX5_tellingOfSulky_13 : decode cX5_tellingOfSulky 13 = .ok (.iload_n 1, 1) := by decide +kernel
theorem dX5_tellingOfSulky_14 : decode cX5_tellingOfSulky 14 = .ok (.invokevirtual 232, 3) := by decide +kernel
theorem dX5_tellingOfSulky_17 : decode cX5_tellingOfSulky 17 = .ok (.iadd, 1) := by decide +kernel
theorem dX5_tellingOfSulky_18 : decode cX5_tellingOfSulky 18 = .ok (.ireturn, 1) := by decide +kernel
set_option maxRecDepth 20000 in
theorem ggX5_flatter_X0_has : GoodIn wsX5_flatter wsX0_has := goodIn_r _ [6, 7, 35, 36, 37, 38, 39] (by decide +kernel) (by decide +kernel)
set_option maxRecDepth 20000 in
theorem gX5_flatter_X0_has : GoodIn wsX5_flatter (wsV RX5 76 RX0 yX0_has wsX0_has) := goodIn_app (goodIn_of _ (by decide +kernel)) ggX5_flatter_X0_has
set_option maxRecDepth 20000 in
theorem ggX5_flatter_X0_kindOf : GoodIn wsX5_flatter wsX0_kindOf := goodIn_r _ [11, 12, 13, 3, 4, 5, 6, 7, 35, 36, 37, 38, 39] (by decide +kernel) (by decide +kernel)
set_option maxRecDepth 20000 in
theorem gX5_flatter_X0_kindOf : GoodIn wsX5_flatter (wsV RX5 79 RX0 yX0_kindOf wsX0_kindOf) := goodIn_app (goodIn_of _ (by decide +kernel)) ggX5_flatter_X0_kindOf
set_option maxRecDepth 20000 in
theorem ggX5_flatter_X5_flatteryOfSulky : GoodIn wsX5_flatter wsX5_flatteryOfSulky := goodIn_r _ [18, 19, 20, 21, 17, 22, 23, 28, 29, 30, 31, 32, 33, 34] (by decide +kernel) (by decide +kernel)
set_option maxRecDepth 20000 in
theorem gX5_flatter_X5_flatteryOfSulky : GoodIn wsX5_flatter (wsV RX5 238 RX5 yX5_flatteryOfSulky wsX5_flatteryOfSulky) := goodIn_app (goodIn_of _ (by decide +kernel)) ggX5_flatter_X5_flatteryOfSulky
set_option maxRecDepth 20000 in
theorem ggX5_flatter_X5_flatteryLent : GoodIn wsX5_flatter wsX5_flatteryLent := goodIn_r _ [27, 19, 20, 21, 17, 22, 23, 28, 29, 30, 31, 32, 33, 34] (by decide +kernel) (by decide +kernel)
set_option maxRecDepth 20000 in
theorem gX5_flatter_X5_flatteryLent : GoodIn wsX5_flatter (wsV RX5 241 RX5 yX5_flatteryLent wsX5_flatteryLent) := goodIn_app (goodIn_of _ (by decide +kernel)) ggX5_flatter_X5_flatteryLent
theorem dX5_flatter_0 : decode cX5_flatter 0 = .ok (.aload_n 0, 1) := by decide +kernel
theorem dX5_flatter_1 : decode cX5_flatter 1 = .ok (.getfield 20, 3) := by decide +kernel
theorem dX5_flatter_4 : decode cX5_flatter 4 = .ok (.iload_n 1, 1) := by decide +kernel
theorem dX5_flatter_5 : decode cX5_flatter 5 = .ok (.invokevirtual 76, 3) := by decide +kernel
theorem dX5_flatter_8 : decode cX5_flatter 8 = .ok (.ifCond .ne 5, 3) := by decide +kernel
theorem dX5_flatter_11 : decode cX5_flatter 11 = .ok (.iconst (-1), 1) := by decide +kernel
theorem dX5_flatter_12 : decode cX5_flatter 12 = .ok (.ireturn, 1) := by decide +kernel
theorem dX5_flatter_13 : decode cX5_flatter 13 = .ok (.aload_n 0, 1) := by decide +kernel
theorem dX5_flatter_14 : decode cX5_flatter 14 = .ok (.getfield 20, 3) := by decide +kernel
theorem dX5_flatter_17 : decode cX5_flatter 17 = .ok (.iload_n 1, 1) := by decide +kernel
theorem dX5_flatter_18 : decode cX5_flatter 18 = .ok (.invokevirtual 79, 3) := by decide +kernel
theorem dX5_flatter_21 : decode cX5_flatter 21 = .ok (.iconst 2, 1) := by decide +kernel
theorem dX5_flatter_22 : decode cX5_flatter 22 = .ok (.if_icmp .ne 10, 3) := by decide +kernel
theorem dX5_flatter_25 : decode cX5_flatter 25 = .ok (.aload_n 0, 1) := by decide +kernel
theorem dX5_flatter_26 : decode cX5_flatter 26 = .ok (.invokevirtual 238, 3) := by decide +kernel
theorem dX5_flatter_29 : decode cX5_flatter 29 = .ok (.goto 8, 3) := by decide +kernel
theorem dX5_flatter_32 : decode cX5_flatter 32 = .ok (.aload_n 0, 1) := by decide +kernel
theorem dX5_flatter_33 : decode cX5_flatter 33 = .ok (.iload_n 1, 1) := by decide +kernel
theorem dX5_flatter_34 : decode cX5_flatter 34 = .ok (.invokevirtual 241, 3) := by decide +kernel
theorem dX5_flatter_37 : decode cX5_flatter 37 = .ok (.ireturn, 1) := by decide +kernel
set_option maxRecDepth 20000 in
theorem ggX5_flatteryLent_X5_leave : GoodIn wsX5_flatteryLent wsX5_leave := goodIn_r _ [5, 6, 7, 8, 9, 10, 11, 12, 13] (by decide +kernel) (by decide +kernel)
set_option maxRecDepth 20000 in
theorem gX5_flatteryLent_X5_leave : GoodIn wsX5_flatteryLent (wsV RX5 235 RX5 yX5_leave wsX5_leave) := goodIn_app (goodIn_of _ (by decide +kernel)) ggX5_flatteryLent_X5_leave
theorem dX5_flatteryLent_0 : decode cX5_flatteryLent 0 = .ok (.aload_n 0, 1) := by decide +kernel
theorem dX5_flatteryLent_1 : decode cX5_flatteryLent 1 = .ok (.iconst 4, 1) := by decide +kernel
theorem dX5_flatteryLent_2 : decode cX5_flatteryLent 2 = .ok (.invokevirtual 235, 3) := by decide +kernel
theorem dX5_flatteryLent_5 : decode cX5_flatteryLent 5 = .ok (.iload_n 1, 1) := by decide +kernel
theorem dX5_flatteryLent_6 : decode cX5_flatteryLent 6 = .ok (.ireturn, 1) := by decide +kernel
set_option maxRecDepth 20000 in
theorem ggX5_flatteryOfSulky_X5_leave : GoodIn wsX5_flatteryOfSulky wsX5_leave := goodIn_r _ [5, 6, 7, 8, 9, 10, 11, 12, 13] (by decide +kernel) (by decide +kernel)
set_option maxRecDepth 20000 in
theorem gX5_flatteryOfSulky_X5_leave : GoodIn wsX5_flatteryOfSulky (wsV RX5 235 RX5 yX5_leave wsX5_leave) := goodIn_app (goodIn_of _ (by decide +kernel)) ggX5_flatteryOfSulky_X5_leave
theorem dX5_flatteryOfSulky_0 : decode cX5_flatteryOfSulky 0 = .ok (.aload_n 0, 1) := by decide +kernel
theorem dX5_flatteryOfSulky_1 : decode cX5_flatteryOfSulky 1 = .ok (.iconst 5, 1) := by decide +kernel
theorem dX5_flatteryOfSulky_2 : decode cX5_flatteryOfSulky 2 = .ok (.invokevirtual 235, 3) := by decide +kernel
theorem dX5_flatteryOfSulky_5 : decode cX5_flatteryOfSulky 5 = .ok (.bipush 70, 2) := by decide +kernel
theorem dX5_flatteryOfSulky_7 : decode cX5_flatteryOfSulky 7 = .ok (.ireturn, 1) := by decide +kernel
theorem dX5_leave_0 : decode cX5_leave 0 = .ok (.aload_n 0, 1) := by decide +kernel
theorem dX5_leave_1 : decode cX5_leave 1 = .ok (.bipush 31, 2) := by decide +kernel
theorem dX5_leave_3 : decode cX5_leave 3 = .ok (.aload_n 0, 1) := by decide +kernel
theorem dX5_leave_4 : decode cX5_leave 4 = .ok (.getfield 244, 3) := by decide +kernel
theorem dX5_leave_7 : decode cX5_leave 7 = .ok (.imul, 1) := by decide +kernel
theorem dX5_leave_8 : decode cX5_leave 8 = .ok (.iload_n 1, 1) := by decide +kernel
theorem dX5_leave_9 : decode cX5_leave 9 = .ok (.iadd, 1) := by decide +kernel
theorem dX5_leave_10 : decode cX5_leave 10 = .ok (.putfield 244, 3) := by decide +kernel
theorem dX5_leave_13 : decode cX5_leave 13 = .ok (.return_, 1) := by decide +kernel
set_option maxRecDepth 20000 in
theorem ggX5_as_X0_has : GoodIn wsX5_as wsX0_has := goodIn_r _ [7, 8, 30, 31, 32, 33, 34] (by decide +kernel) (by decide +kernel)
set_option maxRecDepth 20000 in
theorem gX5_as_X0_has : GoodIn wsX5_as (wsV RX5 76 RX0 yX0_has wsX0_has) := goodIn_app (goodIn_of _ (by decide +kernel)) ggX5_as_X0_has
set_option maxRecDepth 20000 in
theorem ggX5_as_X5_isFrom0To : GoodIn wsX5_as wsX5_isFrom0To := goodIn_r _ [12] (by decide +kernel) (by decide +kernel)
set_option maxRecDepth 20000 in
theorem gX5_as_X5_isFrom0To : GoodIn wsX5_as (va_wsS RX5 91 yX5_isFrom0To wsX5_isFrom0To) := goodIn_app (goodIn_of _ (by decide +kernel)) ggX5_as_X5_isFrom0To
set_option maxRecDepth 20000 in
theorem ggX5_as_X0_kindOf : GoodIn wsX5_as wsX0_kindOf := goodIn_r _ [16, 17, 18, 4, 5, 6, 7, 8, 30, 31, 32, 33, 34] (by decide +kernel) (by decide +kernel)
set_option maxRecDepth 20000 in
theorem gX5_as_X0_kindOf : GoodIn wsX5_as (wsV RX5 79 RX0 yX0_kindOf wsX0_kindOf) := goodIn_app (goodIn_of _ (by decide +kernel)) ggX5_as_X0_kindOf
set_option maxRecDepth 20000 in
theorem ggX5_as_X5_faulted : GoodIn wsX5_as wsX5_faulted := goodIn_r _ [22, 1, 23, 24, 25, 26, 27, 28, 29] (by decide +kernel) (by decide +kernel)
set_option maxRecDepth 20000 in
theorem gX5_as_X5_faulted : GoodIn wsX5_as (wsV RX5 58 RX5 yX5_faulted wsX5_faulted) := goodIn_app (goodIn_of _ (by decide +kernel)) ggX5_as_X5_faulted
theorem dX5_as_0 : decode cX5_as 0 = .ok (.aload_n 0, 1) := by decide +kernel
theorem dX5_as_1 : decode cX5_as 1 = .ok (.iconst 0, 1) := by decide +kernel
theorem dX5_as_2 : decode cX5_as 2 = .ok (.putfield 42, 3) := by decide +kernel
theorem dX5_as_5 : decode cX5_as 5 = .ok (.aload_n 0, 1) := by decide +kernel
theorem dX5_as_6 : decode cX5_as 6 = .ok (.getfield 20, 3) := by decide +kernel
theorem dX5_as_9 : decode cX5_as 9 = .ok (.iload_n 1, 1) := by decide +kernel
theorem dX5_as_10 : decode cX5_as 10 = .ok (.invokevirtual 76, 3) := by decide +kernel
theorem dX5_as_13 : decode cX5_as 13 = .ok (.ifCond .ne 5, 3) := by decide +kernel
theorem dX5_as_16 : decode cX5_as 16 = .ok (.iconst (-1), 1) := by decide +kernel
theorem dX5_as_17 : decode cX5_as 17 = .ok (.ireturn, 1) := by decide +kernel
theorem dX5_as_18 : decode cX5_as 18 = .ok (.iload_n 2, 1) := by decide +kernel
theorem dX5_as_19 : decode cX5_as 19 = .ok (.iconst 2, 1) := by decide +kernel
theorem dX5_as_20 : decode cX5_as 20 = .ok (.invokestatic 91, 3) := by decide +kernel
theorem dX5_as_23 : decode cX5_as 23 = .ok (.ifCond .ne 6, 3) := by decide +kernel
theorem dX5_as_26 : decode cX5_as 26 = .ok (.bipush (-2), 2) := by decide +kernel
theorem dX5_as_28 : decode cX5_as 28 = .ok (.ireturn, 1) := by decide +kernel
theorem dX5_as_29 : decode cX5_as 29 = .ok (.aload_n 0, 1) := by decide +kernel
theorem dX5_as_30 : decode cX5_as 30 = .ok (.getfield 20, 3) := by decide +kernel
theorem dX5_as_33 : decode cX5_as 33 = .ok (.iload_n 1, 1) := by decide +kernel
theorem dX5_as_34 : decode cX5_as 34 = .ok (.invokevirtual 79, 3) := by decide +kernel
theorem dX5_as_37 : decode cX5_as 37 = .ok (.iload_n 2, 1) := by decide +kernel
theorem dX5_as_38 : decode cX5_as 38 = .ok (.if_icmp .lt 7, 3) := by decide +kernel
theorem dX5_as_41 : decode cX5_as 41 = .ok (.iconst 1, 1) := by decide +kernel
theorem dX5_as_42 : decode cX5_as 42 = .ok (.goto 8, 3) := by decide +kernel
theorem dX5_as_45 : decode cX5_as 45 = .ok (.aload_n 0, 1) := by decide +kernel
theorem dX5_as_46 : decode cX5_as 46 = .ok (.iconst 2, 1) := by decide +kernel
theorem dX5_as_47 : decode cX5_as 47 = .ok (.invokevirtual 58, 3) := by decide +kernel
theorem dX5_as_50 : decode cX5_as 50 = .ok (.ireturn, 1) := by decide +kernel
theorem dX5_trace_0 : decode cX5_trace 0 = .ok (.aload_n 0, 1) := by decide +kernel
theorem dX5_trace_1 : decode cX5_trace 1 = .ok (.getfield 244, 3) := by decide +kernel
theorem dX5_trace_4 : decode cX5_trace 4 = .ok (.ireturn, 1) := by decide +kernel
theorem dX5_fault_0 : decode cX5_fault 0 = .ok (.aload_n 0, 1) := by decide +kernel
theorem dX5_fault_1 : decode cX5_fault 1 = .ok (.getfield 42, 3) := by decide +kernel
theorem dX5_fault_4 : decode cX5_fault 4 = .ok (.ireturn, 1) := by decide +kernel
set_option maxRecDepth 20000 in
theorem ggX5_many_X0_levelsTogether : GoodIn wsX5_many wsX0_levelsTogether := goodIn_r _ [10, 11, 12, 13, 14, 9, 15, 16, 17, 18, 19, 20, 28, 29, 30, 31, 32] (by decide +kernel) (by decide +kernel)
set_option maxRecDepth 20000 in
theorem gX5_many_X0_levelsTogether : GoodIn wsX5_many (wsV RX5 147 RX0 yX0_levelsTogether wsX0_levelsTogether) := goodIn_app (goodIn_of _ (by decide +kernel)) ggX5_many_X0_levelsTogether
theorem dX5_many_0 : decode cX5_many 0 = .ok (.iload_n 1, 1) := by decide +kernel
theorem dX5_many_1 : decode cX5_many 1 = .ok (.tableswitch 63 0 3 #[31, 39, 47, 55], 31) := by decide +kernel
theorem dX5_many_32 : decode cX5_many 32 = .ok (.aload_n 0, 1) := by decide +kernel
theorem dX5_many_33 : decode cX5_many 33 = .ok (.getfield 20, 3) := by decide +kernel
theorem dX5_many_36 : decode cX5_many 36 = .ok (.getfield 75, 3) := by decide +kernel
theorem dX5_many_39 : decode cX5_many 39 = .ok (.ireturn, 1) := by decide +kernel
theorem dX5_many_40 : decode cX5_many 40 = .ok (.aload_n 0, 1) := by decide +kernel
theorem dX5_many_41 : decode cX5_many 41 = .ok (.getfield 20, 3) := by decide +kernel
theorem dX5_many_44 : decode cX5_many 44 = .ok (.getfield 103, 3) := by decide +kernel
theorem dX5_many_47 : decode cX5_many 47 = .ok (.ireturn, 1) := by decide +kernel
theorem dX5_many_48 : decode cX5_many 48 = .ok (.aload_n 0, 1) := by decide +kernel
theorem dX5_many_49 : decode cX5_many 49 = .ok (.getfield 20, 3) := by decide +kernel
theorem dX5_many_52 : decode cX5_many 52 = .ok (.invokevirtual 147, 3) := by decide +kernel
theorem dX5_many_55 : decode cX5_many 55 = .ok (.ireturn, 1) := by decide +kernel
theorem dX5_many_56 : decode cX5_many 56 = .ok (.aload_n 0, 1) := by decide +kernel
theorem dX5_many_57 : decode cX5_many 57 = .ok (.getfield 30, 3) := by decide +kernel
theorem dX5_many_60 : decode cX5_many 60 = .ok (.getfield 72, 3) := by decide +kernel
theorem dX5_many_63 : decode cX5_many 63 = .ok (.ireturn, 1) := by decide +kernel
theorem dX5_many_64 : decode cX5_many 64 = .ok (.bipush (-2), 2) := by decide +kernel
theorem dX5_many_66 : decode cX5_many 66 = .ok (.ireturn, 1) := by decide +kernel
theorem dX5_sheetAt_0 : decode cX5_sheetAt 0 = .ok (.iload_n 1, 1) := by decide +kernel
theorem dX5_sheetAt_1 : decode cX5_sheetAt 1 = .ok (.ifCond .lt 21, 3) := by decide +kernel
theorem dX5_sheetAt_4 : decode cX5_sheetAt 4 = .ok (.iload_n 1, 1) := by decide +kernel
theorem dX5_sheetAt_5 : decode cX5_sheetAt 5 = .ok (.aload_n 0, 1) := by decide +kernel
theorem dX5_sheetAt_6 : decode cX5_sheetAt 6 = .ok (.getfield 13, 3) := by decide +kernel
theorem dX5_sheetAt_9 : decode cX5_sheetAt 9 = .ok (.arraylength, 1) := by decide +kernel
theorem dX5_sheetAt_10 : decode cX5_sheetAt 10 = .ok (.if_icmp .ge 12, 3) := by decide +kernel
theorem dX5_sheetAt_13 : decode cX5_sheetAt 13 = .ok (.aload_n 0, 1) := by decide +kernel
theorem dX5_sheetAt_14 : decode cX5_sheetAt 14 = .ok (.getfield 13, 3) := by decide +kernel
theorem dX5_sheetAt_17 : decode cX5_sheetAt 17 = .ok (.iload_n 1, 1) := by decide +kernel
theorem dX5_sheetAt_18 : decode cX5_sheetAt 18 = .ok (.aaload, 1) := by decide +kernel
theorem dX5_sheetAt_19 : decode cX5_sheetAt 19 = .ok (.goto 4, 3) := by decide +kernel
theorem dX5_sheetAt_22 : decode cX5_sheetAt 22 = .ok (.aconst_null, 1) := by decide +kernel
theorem dX5_sheetAt_23 : decode cX5_sheetAt 23 = .ok (.areturn, 1) := by decide +kernel
theorem dX5_faulted_0 : decode cX5_faulted 0 = .ok (.aload_n 0, 1) := by decide +kernel
theorem dX5_faulted_1 : decode cX5_faulted 1 = .ok (.iload_n 1, 1) := by decide +kernel
theorem dX5_faulted_2 : decode cX5_faulted 2 = .ok (.putfield 42, 3) := by decide +kernel
theorem dX5_faulted_5 : decode cX5_faulted 5 = .ok (.bipush (-10), 2) := by decide +kernel
theorem dX5_faulted_7 : decode cX5_faulted 7 = .ok (.iload_n 1, 1) := by decide +kernel
theorem dX5_faulted_8 : decode cX5_faulted 8 = .ok (.isub, 1) := by decide +kernel
theorem dX5_faulted_9 : decode cX5_faulted 9 = .ok (.ireturn, 1) := by decide +kernel
theorem dX5_isLane_0 : decode cX5_isLane 0 = .ok (.iload_n 0, 1) := by decide +kernel
theorem dX5_isLane_1 : decode cX5_isLane 1 = .ok (.ifCond .lt 12, 3) := by decide +kernel
theorem dX5_isLane_4 : decode cX5_isLane 4 = .ok (.iload_n 0, 1) := by decide +kernel
theorem dX5_isLane_5 : decode cX5_isLane 5 = .ok (.iconst 2, 1) := by decide +kernel
theorem dX5_isLane_6 : decode cX5_isLane 6 = .ok (.if_icmp .gt 7, 3) := by decide +kernel
theorem dX5_isLane_9 : decode cX5_isLane 9 = .ok (.iconst 1, 1) := by decide +kernel
theorem dX5_isLane_10 : decode cX5_isLane 10 = .ok (.goto 4, 3) := by decide +kernel
theorem dX5_isLane_13 : decode cX5_isLane 13 = .ok (.iconst 0, 1) := by decide +kernel
theorem dX5_isLane_14 : decode cX5_isLane 14 = .ok (.ireturn, 1) := by decide +kernel
theorem dX5_isFrom0To_0 : decode cX5_isFrom0To 0 = .ok (.iload_n 0, 1) := by decide +kernel
theorem dX5_isFrom0To_1 : decode cX5_isFrom0To 1 = .ok (.ifCond .lt 12, 3) := by decide +kernel
theorem dX5_isFrom0To_4 : decode cX5_isFrom0To 4 = .ok (.iload_n 0, 1) := by decide +kernel
theorem dX5_isFrom0To_5 : decode cX5_isFrom0To 5 = .ok (.iload_n 1, 1) := by decide +kernel
theorem dX5_isFrom0To_6 : decode cX5_isFrom0To 6 = .ok (.if_icmp .gt 7, 3) := by decide +kernel
theorem dX5_isFrom0To_9 : decode cX5_isFrom0To 9 = .ok (.iconst 1, 1) := by decide +kernel
theorem dX5_isFrom0To_10 : decode cX5_isFrom0To 10 = .ok (.goto 4, 3) := by decide +kernel
theorem dX5_isFrom0To_13 : decode cX5_isFrom0To 13 = .ok (.iconst 0, 1) := by decide +kernel
theorem dX5_isFrom0To_14 : decode cX5_isFrom0To 14 = .ok (.ireturn, 1) := by decide +kernel
theorem dX6_init_0 : decode cX6_init 0 = .ok (.aload_n 0, 1) := by decide +kernel
theorem dX6_init_1 : decode cX6_init 1 = .ok (.invokespecial 1, 3) := by decide +kernel
theorem dX6_init_4 : decode cX6_init 4 = .ok (.aload_n 0, 1) := by decide +kernel
theorem dX6_init_5 : decode cX6_init 5 = .ok (.iconst 4, 1) := by decide +kernel
theorem dX6_init_6 : decode cX6_init 6 = .ok (.newarray .int, 2) := by decide +kernel
theorem dX6_init_8 : decode cX6_init 8 = .ok (.putfield 7, 3) := by decide +kernel
theorem dX6_init_11 : decode cX6_init 11 = .ok (.aload_n 0, 1) := by decide +kernel
theorem dX6_init_12 : decode cX6_init 12 = .ok (.iconst 4, 1) := by decide +kernel
theorem dX6_init_13 : decode cX6_init 13 = .ok (.newarray .int, 2) := by decide +kernel
theorem dX6_init_15 : decode cX6_init 15 = .ok (.putfield 13, 3) := by decide +kernel
theorem dX6_init_18 : decode cX6_init 18 = .ok (.aload_n 0, 1) := by decide +kernel
theorem dX6_init_19 : decode cX6_init 19 = .ok (.iconst 4, 1) := by decide +kernel
theorem dX6_init_20 : decode cX6_init 20 = .ok (.newarray .int, 2) := by decide +kernel
theorem dX6_init_22 : decode cX6_init 22 = .ok (.putfield 16, 3) := by decide +kernel
theorem dX6_init_25 : decode cX6_init 25 = .ok (.aload_n 0, 1) := by decide +kernel
theorem dX6_init_26 : decode cX6_init 26 = .ok (.iconst 4, 1) := by decide +kernel
theorem dX6_init_27 : decode cX6_init 27 = .ok (.newarray .int, 2) := by decide +kernel
theorem dX6_init_29 : decode cX6_init 29 = .ok (.putfield 19, 3) := by decide +kernel
theorem dX6_init_32 : decode cX6_init 32 = .ok (.aload_n 0, 1) := by decide +kernel
theorem dX6_init_33 : decode cX6_init 33 = .ok (.iconst 4, 1) := by decide +kernel
theorem dX6_init_34 : decode cX6_init 34 = .ok (.newarray .int, 2) := by decide +kernel
theorem dX6_init_36 : decode cX6_init 36 = .ok (.putfield 22, 3) := by decide +kernel
theorem dX6_init_39 : decode cX6_init 39 = .ok (.aload_n 0, 1) := by decide +kernel
theorem dX6_init_40 : decode cX6_init 40 = .ok (.iconst 4, 1) := by decide +kernel
theorem dX6_init_41 : decode cX6_init 41 = .ok (.newarray .int, 2) := by decide +kernel
theorem dX6_init_43 : decode cX6_init 43 = .ok (.putfield 25, 3) := by decide +kernel
theorem dX6_init_46 : decode cX6_init 46 = .ok (.aload_n 0, 1) := by decide +kernel
theorem dX6_init_47 : decode cX6_init 47 = .ok (.iconst 4, 1) := by decide +kernel
theorem dX6_init_48 : decode cX6_init 48 = .ok (.newarray .int, 2) := by decide +kernel
theorem dX6_init_50 : decode cX6_init 50 = .ok (.putfield 28, 3) := by decide +kernel
theorem dX6_init_53 : decode cX6_init 53 = .ok (.aload_n 0, 1) := by decide +kernel
theorem dX6_init_54 : decode cX6_init 54 = .ok (.ldc 31, 2) := by decide +kernel
theorem dX6_init_56 : decode cX6_init 56 = .ok (.newarray .int, 2) := by decide +kernel
theorem dX6_init_58 : decode cX6_init 58 = .ok (.putfield 32, 3) := by decide +kernel
theorem dX6_init_61 : decode cX6_init 61 = .ok (.aload_n 0, 1) := by decide +kernel
theorem dX6_init_62 : decode cX6_init 62 = .ok (.ldc 31, 2) := by decide +kernel
theorem dX6_init_64 : decode cX6_init 64 = .ok (.newarray .int, 2) := by decide +kernel
theorem dX6_init_66 : decode cX6_init 66 = .ok (.putfield 35, 3) := by decide +kernel
theorem dX6_init_69 : decode cX6_init 69 = .ok (.aload_n 0, 1) := by decide +kernel
theorem dX6_init_70 : decode cX6_init 70 = .ok (.bipush 40, 2) := by decide +kernel
theorem dX6_init_72 : decode cX6_init 72 = .ok (.newarray .int, 2) := by decide +kernel
theorem dX6_init_74 : decode cX6_init 74 = .ok (.putfield 38, 3) := by decide +kernel
theorem dX6_init_77 : decode cX6_init 77 = .ok (.aload_n 0, 1) := by decide +kernel
theorem dX6_init_78 : decode cX6_init 78 = .ok (.bipush 8, 2) := by decide +kernel
theorem dX6_init_80 : decode cX6_init 80 = .ok (.newarray .int, 2) := by decide +kernel
theorem dX6_init_82 : decode cX6_init 82 = .ok (.putfield 41, 3) := by decide +kernel
theorem dX6_init_85 : decode cX6_init 85 = .ok (.aload_n 0, 1) := by decide +kernel
theorem dX6_init_86 : decode cX6_init 86 = .ok (.bipush 8, 2) := by decide +kernel
theorem dX6_init_88 : decode cX6_init 88 = .ok (.newarray .int, 2) := by decide +kernel
theorem dX6_init_90 : decode cX6_init 90 = .ok (.putfield 44, 3) := by decide +kernel
theorem dX6_init_93 : decode cX6_init 93 = .ok (.aload_n 0, 1) := by decide +kernel
theorem dX6_init_94 : decode cX6_init 94 = .ok (.bipush 8, 2) := by decide +kernel
theorem dX6_init_96 : decode cX6_init 96 = .ok (.newarray .boolean, 2) := by decide +kernel
theorem dX6_init_98 : decode cX6_init 98 = .ok (.putfield 47, 3) := by decide +kernel
theorem dX6_init_101 : decode cX6_init 101 = .ok (.aload_n 0, 1) := by decide +kernel
theorem dX6_init_102 : decode cX6_init 102 = .ok (.iconst 4, 1) := by decide +kernel
theorem dX6_init_103 : decode cX6_init 103 = .ok (.newarray .int, 2) := by decide +kernel
theorem dX6_init_105 : decode cX6_init 105 = .ok (.putfield 51, 3) := by decide +kernel
theorem dX6_init_108 : decode cX6_init 108 = .ok (.aload_n 0, 1) := by decide +kernel
theorem dX6_init_109 : decode cX6_init 109 = .ok (.iconst 4, 1) := by decide +kernel
theorem dX6_init_110 : decode cX6_init 110 = .ok (.newarray .int, 2) := by decide +kernel
theorem dX6_init_112 : decode cX6_init 112 = .ok (.putfield 54, 3) := by decide +kernel
theorem dX6_init_115 : decode cX6_init 115 = .ok (.aload_n 0, 1) := by decide +kernel
theorem dX6_init_116 : decode cX6_init 116 = .ok (.sipush 240, 3) := by decide +kernel
theorem dX6_init_119 : decode cX6_init 119 = .ok (.newarray .int, 2) := by decide +kernel
theorem dX6_init_121 : decode cX6_init 121 = .ok (.putfield 57, 3) := by decide +kernel
theorem dX6_init_124 : decode cX6_init 124 = .ok (.aload_n 0, 1) := by decide +kernel
theorem dX6_init_125 : decode cX6_init 125 = .ok (.bipush 60, 2) := by decide +kernel
theorem dX6_init_127 : decode cX6_init 127 = .ok (.newarray .int, 2) := by decide +kernel
theorem dX6_init_129 : decode cX6_init 129 = .ok (.putfield 60, 3) := by decide +kernel
theorem dX6_init_132 : decode cX6_init 132 = .ok (.iconst 0, 1) := by decide +kernel
theorem dX6_init_133 : decode cX6_init 133 = .ok (.istore_n 1, 1) := by decide +kernel
theorem dX6_init_134 : decode cX6_init 134 = .ok (.iload_n 1, 1) := by decide +kernel
theorem dX6_init_135 : decode cX6_init 135 = .ok (.iconst 4, 1) := by decide +kernel
theorem dX6_init_136 : decode cX6_init 136 = .ok (.if_icmp .ge 16, 3) := by decide +kernel
theorem dX6_init_139 : decode cX6_init 139 = .ok (.aload_n 0, 1) := by decide +kernel
theorem dX6_init_140 : decode cX6_init 140 = .ok (.getfield 51, 3) := by decide +kernel
theorem dX6_init_143 : decode cX6_init 143 = .ok (.iload_n 1, 1) := by decide +kernel
theorem dX6_init_144 : decode cX6_init 144 = .ok (.iconst (-1), 1) := by decide +kernel
theorem dX6_init_145 : decode cX6_init 145 = .ok (.iastore, 1) := by decide +kernel
theorem dX6_init_146 : decode cX6_init 146 = .ok (.iinc 1 1, 3) := by decide +kernel
theorem dX6_init_149 : decode cX6_init 149 = .ok (.goto (-15), 3) := by decide +kernel
theorem dX6_init_152 : decode cX6_init 152 = .ok (.return_, 1) := by decide +kernel
theorem dX6_in_0 : decode cX6_in 0 = .ok (.lload_n 0, 1) := by decide +kernel
theorem dX6_in_1 : decode cX6_in 1 = .ok (.lload_n 2, 1) := by decide +kernel
theorem dX6_in_2 : decode cX6_in 2 = .ok (.lcmp, 1) := by decide +kernel
theorem dX6_in_3 : decode cX6_in 3 = .ok (.ifCond .lt 14, 3) := by decide +kernel
theorem dX6_in_6 : decode cX6_in 6 = .ok (.lload_n 0, 1) := by decide +kernel
theorem dX6_in_7 : decode cX6_in 7 = .ok (.lload 4, 2) := by decide +kernel
theorem dX6_in_9 : decode cX6_in 9 = .ok (.lcmp, 1) := by decide +kernel
theorem dX6_in_10 : decode cX6_in 10 = .ok (.ifCond .gt 7, 3) := by decide +kernel
theorem dX6_in_13 : decode cX6_in 13 = .ok (.iconst 1, 1) := by decide +kernel
theorem dX6_in_14 : decode cX6_in 14 = .ok (.goto 4, 3) := by decide +kernel
theorem dX6_in_17 : decode cX6_in 17 = .ok (.iconst 0, 1) := by decide +kernel
theorem dX6_in_18 : decode cX6_in 18 = .ok (.ireturn, 1) := by decide +kernel
theorem dX6_lost_0 : decode cX6_lost 0 = .ok (.ldc2_w 63, 3) := by decide +kernel
theorem dX6_lost_3 : decode cX6_lost 3 = .ok (.lreturn, 1) := by decide +kernel
theorem dX6_share_0 : decode cX6_share 0 = .ok (.lload_n 0, 1) := by decide +kernel
theorem dX6_share_1 : decode cX6_share 1 = .ok (.lstore 5, 2) := by decide +kernel
theorem dX6_share_3 : decode cX6_share 3 = .ok (.lload_n 2, 1) := by decide +kernel
theorem dX6_share_4 : decode cX6_share 4 = .ok (.lstore 7, 2) := by decide +kernel
theorem dX6_share_6 : decode cX6_share 6 = .ok (.lload 7, 2) := by decide +kernel
theorem dX6_share_8 : decode cX6_share 8 = .ok (.lconst 0, 1) := by decide +kernel
theorem dX6_share_9 : decode cX6_share 9 = .ok (.lcmp, 1) := by decide +kernel
theorem dX6_share_10 : decode cX6_share 10 = .ok (.ifCond .eq 21, 3) := by decide +kernel
theorem dX6_share_13 : decode cX6_share 13 = .ok (.lload 5, 2) := by decide +kernel
theorem dX6_share_15 : decode cX6_share 15 = .ok (.lload 7, 2) := by decide +kernel
theorem dX6_share_17 : decode cX6_share 17 = .ok (.lrem, 1) := by decide +kernel
theorem dX6_share_18 : decode cX6_share 18 = .ok (.lstore 9, 2) := by decide +kernel
theorem dX6_share_20 : decode cX6_share 20 = .ok (.lload 7, 2) := by decide +kernel
theorem dX6_share_22 : decode cX6_share 22 = .ok (.lstore 5, 2) := by decide +kernel
theorem dX6_share_24 : decode cX6_share 24 = .ok (.lload 9, 2) := by decide +kernel
theorem dX6_share_26 : decode cX6_share 26 = .ok (.lstore 7, 2) := by decide +kernel
theorem dX6_share_28 : decode cX6_share 28 = .ok (.goto (-22), 3) := by decide +kernel
theorem dX6_share_31 : decode cX6_share 31 = .ok (.iload 4, 2) := by decide +kernel
theorem dX6_share_33 : decode cX6_share 33 = .ok (.ifCond .ne 7, 3) := by decide +kernel
theorem dX6_share_36 : decode cX6_share 36 = .ok (.lload_n 0, 1) := by decide +kernel
theorem dX6_share_37 : decode cX6_share 37 = .ok (.goto 4, 3) := by decide +kernel
theorem dX6_share_40 : decode cX6_share 40 = .ok (.lload_n 2, 1) := by decide +kernel
theorem dX6_share_41 : decode cX6_share 41 = .ok (.lload 5, 2) := by decide +kernel
theorem dX6_share_43 : decode cX6_share 43 = .ok (.ldiv, 1) := by decide +kernel
theorem dX6_share_44 : decode cX6_share 44 = .ok (.lreturn, 1) := by decide +kernel
theorem dX6_refused_0 : decode cX6_refused 0 = .ok (.aload_n 0, 1) := by decide +kernel
theorem dX6_refused_1 : decode cX6_refused 1 = .ok (.iconst 0, 1) := by decide +kernel
theorem dX6_refused_2 : decode cX6_refused 2 = .ok (.putfield 65, 3) := by decide +kernel
theorem dX6_refused_5 : decode cX6_refused 5 = .ok (.iload_n 1, 1) := by decide +kernel
theorem dX6_refused_6 : decode cX6_refused 6 = .ok (.ireturn, 1) := by decide +kernel
theorem dX6_failed_0 : decode cX6_failed 0 = .ok (.aload_n 0, 1) := by decide +kernel
theorem dX6_failed_1 : decode cX6_failed 1 = .ok (.iload_n 1, 1) := by decide +kernel
theorem dX6_failed_2 : decode cX6_failed 2 = .ok (.putfield 65, 3) := by decide +kernel
theorem dX6_failed_5 : decode cX6_failed 5 = .ok (.bipush (-10), 2) := by decide +kernel
theorem dX6_failed_7 : decode cX6_failed 7 = .ok (.iload_n 1, 1) := by decide +kernel
theorem dX6_failed_8 : decode cX6_failed 8 = .ok (.isub, 1) := by decide +kernel
theorem dX6_failed_9 : decode cX6_failed 9 = .ok (.ireturn, 1) := by decide +kernel
set_option maxRecDepth 20000 in
theorem ggX6_failedLong_X6_lost : GoodIn wsX6_failedLong wsX6_lost := goodIn_r _ [5, 6] (by decide +kernel) (by decide +kernel)
set_option maxRecDepth 20000 in
theorem gX6_failedLong_X6_lost : GoodIn wsX6_failedLong (va_wsS RX6 69 yX6_lost wsX6_lost) := goodIn_app (goodIn_of _ (by decide +kernel)) ggX6_failedLong_X6_lost
theorem dX6_failedLong_0 : decode cX6_failedLong 0 = .ok (.aload_n 0, 1) := by decide +kernel
theorem dX6_failedLong_1 : decode cX6_failedLong 1 = .ok (.iload_n 1, 1) := by decide +kernel
theorem dX6_failedLong_2 : decode cX6_failedLong 2 = .ok (.putfield 65, 3) := by decide +kernel
theorem dX6_failedLong_5 : decode cX6_failedLong 5 = .ok (.invokestatic 69, 3) := by decide +kernel
theorem dX6_failedLong_8 : decode cX6_failedLong 8 = .ok (.lreturn, 1) := by decide +kernel
set_option maxRecDepth 20000 in
theorem ggX6_noReach_X6_in : GoodIn wsX6_noReach wsX6_in := goodIn_r _ [5] (by decide +kernel) (by decide +kernel)
set_option maxRecDepth 20000 in
theorem gX6_noReach_X6_in : GoodIn wsX6_noReach (va_wsS RX6 76 yX6_in wsX6_in) := goodIn_app (goodIn_of _ (by decide +kernel)) ggX6_noReach_X6_in
theorem dX6_noReach_0 : decode cX6_noReach 0 = .ok (.iload_n 1, 1) := by decide +kernel
theorem dX6_noReach_1 : decode cX6_noReach 1 = .ok (.i2l, 1) := by decide +kernel
theorem dX6_noReach_2 : decode cX6_noReach 2 = .ok (.lconst 0, 1) := by decide +kernel
theorem dX6_noReach_3 : decode cX6_noReach 3 = .ok (.aload_n 0, 1) := by decide +kernel
theorem dX6_noReach_4 : decode cX6_noReach 4 = .ok (.getfield 73, 3) := by decide +kernel
theorem dX6_noReach_7 : decode cX6_noReach 7 = .ok (.i2l, 1) := by decide +kernel
theorem dX6_noReach_8 : decode cX6_noReach 8 = .ok (.lconst 1, 1) := by decide +kernel
theorem dX6_noReach_9 : decode cX6_noReach 9 = .ok (.lsub, 1) := by decide +kernel
theorem dX6_noReach_10 : decode cX6_noReach 10 = .ok (.invokestatic 76, 3) := by decide +kernel
theorem dX6_noReach_13 : decode cX6_noReach 13 = .ok (.ifCond .ne 7, 3) := by decide +kernel
theorem dX6_noReach_16 : decode cX6_noReach 16 = .ok (.iconst 1, 1) := by decide +kernel
theorem dX6_noReach_17 : decode cX6_noReach 17 = .ok (.goto 4, 3) := by decide +kernel
theorem dX6_noReach_20 : decode cX6_noReach 20 = .ok (.iconst 0, 1) := by decide +kernel
theorem dX6_noReach_21 : decode cX6_noReach 21 = .ok (.ireturn, 1) := by decide +kernel
theorem dX6_codeAt_0 : decode cX6_codeAt 0 = .ok (.aload_n 0, 1) := by decide +kernel
theorem dX6_codeAt_1 : decode cX6_codeAt 1 = .ok (.getfield 80, 3) := by decide +kernel
theorem dX6_codeAt_4 : decode cX6_codeAt 4 = .ok (.iload_n 2, 1) := by decide +kernel
theorem dX6_codeAt_5 : decode cX6_codeAt 5 = .ok (.if_icmp .ge 17, 3) := by decide +kernel
theorem dX6_codeAt_8 : decode cX6_codeAt 8 = .ok (.aload_n 0, 1) := by decide +kernel
theorem dX6_codeAt_9 : decode cX6_codeAt 9 = .ok (.getfield 57, 3) := by decide +kernel
theorem dX6_codeAt_12 : decode cX6_codeAt 12 = .ok (.iload_n 1, 1) := by decide +kernel
theorem dX6_codeAt_13 : decode cX6_codeAt 13 = .ok (.aload_n 0, 1) := by decide +kernel
theorem dX6_codeAt_14 : decode cX6_codeAt 14 = .ok (.getfield 80, 3) := by decide +kernel
theorem dX6_codeAt_17 : decode cX6_codeAt 17 = .ok (.iadd, 1) := by decide +kernel
theorem dX6_codeAt_18 : decode cX6_codeAt 18 = .ok (.iaload, 1) := by decide +kernel
theorem dX6_codeAt_19 : decode cX6_codeAt 19 = .ok (.goto 5, 3) := by decide +kernel
theorem dX6_codeAt_22 : decode cX6_codeAt 22 = .ok (.bipush (-9), 2) := by decide +kernel
theorem dX6_codeAt_24 : decode cX6_codeAt 24 = .ok (.ireturn, 1) := by decide +kernel
set_option maxRecDepth 20000 in
theorem ggX6_figure_X6_codeAt : GoodIn wsX6_figure wsX6_codeAt := goodIn_r _ [6, 1, 7, 11, 12, 13, 14, 15, 16, 17, 18, 19, 20, 21, 22, 23, 24, 25, 26, 27, 28, 29, 30, 31, 32, 33, 34, 35, 36, 37, 38, 39, 40] (by decide +kernel) (by decide +kernel)
set_option maxRecDepth 20000 in
theorem gX6_figure_X6_codeAt : GoodIn wsX6_figure (wsV RX6 83 RX6 yX6_codeAt wsX6_codeAt) := goodIn_app (goodIn_of _ (by decide +kernel)) ggX6_figure_X6_codeAt
set_option maxRecDepth 20000 in
theorem ggX6_figure_X6_in : GoodIn wsX6_figure wsX6_in := goodIn_r _ [10] (by decide +kernel) (by decide +kernel)
set_option maxRecDepth 20000 in
theorem gX6_figure_X6_in : GoodIn wsX6_figure (va_wsS RX6 76 yX6_in wsX6_in) := goodIn_app (goodIn_of _ (by decide +kernel)) ggX6_figure_X6_in
theorem dX6_figure_0 : decode cX6_figure 0 = .ok (.aload_n 0, 1) := by decide +kernel
theorem dX6_figure_1 : decode cX6_figure 1 = .ok (.iload_n 1, 1) := by decide +kernel
theorem dX6_figure_2 : decode cX6_figure 2 = .ok (.iload_n 2, 1) := by decide +kernel
theorem dX6_figure_3 : decode cX6_figure 3 = .ok (.invokevirtual 83, 3) := by decide +kernel
theorem dX6_figure_6 : decode cX6_figure 6 = .ok (.bipush 48, 2) := by decide +kernel
theorem dX6_figure_8 : decode cX6_figure 8 = .ok (.isub, 1) := by decide +kernel
theorem dX6_figure_9 : decode cX6_figure 9 = .ok (.istore 4, 2) := by decide +kernel
theorem dX6_figure_11 : decode cX6_figure 11 = .ok (.iload 4, 2) := by decide +kernel
theorem dX6_figure_13 : decode cX6_figure 13 = .ok (.i2l, 1) := by decide +kernel
theorem dX6_figure_14 : decode cX6_figure 14 = .ok (.lconst 0, 1) := by decide +kernel
theorem dX6_figure_15 : decode cX6_figure 15 = .ok (.iload_n 3, 1) := by decide +kernel
theorem dX6_figure_16 : decode cX6_figure 16 = .ok (.i2l, 1) := by decide +kernel
theorem dX6_figure_17 : decode cX6_figure 17 = .ok (.invokestatic 76, 3) := by decide +kernel
theorem dX6_figure_20 : decode cX6_figure 20 = .ok (.istore 5, 2) := by decide +kernel
theorem dX6_figure_22 : decode cX6_figure 22 = .ok (.aload_n 0, 1) := by decide +kernel
theorem dX6_figure_23 : decode cX6_figure 23 = .ok (.dup, 1) := by decide +kernel
theorem dX6_figure_24 : decode cX6_figure 24 = .ok (.getfield 80, 3) := by decide +kernel
theorem dX6_figure_27 : decode cX6_figure 27 = .ok (.iload 5, 2) := by decide +kernel
theorem dX6_figure_29 : decode cX6_figure 29 = .ok (.ifCond .eq 7, 3) := by decide +kernel
theorem dX6_figure_32 : decode cX6_figure 32 = .ok (.iconst 1, 1) := by decide +kernel
theorem dX6_figure_33 : decode cX6_figure 33 = .ok (.goto 4, 3) := by decide +kernel
theorem dX6_figure_36 : decode cX6_figure 36 = .ok (.iconst 0, 1) := by decide +kernel
theorem dX6_figure_37 : decode cX6_figure 37 = .ok (.iadd, 1) := by decide +kernel
theorem dX6_figure_38 : decode cX6_figure 38 = .ok (.putfield 80, 3) := by decide +kernel
theorem dX6_figure_41 : decode cX6_figure 41 = .ok (.iload 5, 2) := by decide +kernel
theorem dX6_figure_43 : decode cX6_figure 43 = .ok (.ifCond .eq 8, 3) := by decide +kernel
theorem dX6_figure_46 : decode cX6_figure 46 = .ok (.iload 4, 2) := by decide +kernel
theorem dX6_figure_48 : decode cX6_figure 48 = .ok (.goto 5, 3) := by decide +kernel
theorem dX6_figure_51 : decode cX6_figure 51 = .ok (.bipush (-9), 2) := by decide +kernel
theorem dX6_figure_53 : decode cX6_figure 53 = .ok (.ireturn, 1) := by decide +kernel
set_option maxRecDepth 20000 in
theorem ggX6_readsReach_X6_codeAt : GoodIn wsX6_readsReach wsX6_codeAt := goodIn_r _ [10, 2, 11, 19, 20, 21, 22, 23, 24, 25, 26, 27, 28, 29, 30, 31, 32, 33, 34, 35, 36, 37, 38, 39, 40, 41, 42, 43, 44, 45, 46, 47, 48] (by decide +kernel) (by decide +kernel)
set_option maxRecDepth 20000 in
theorem gX6_readsReach_X6_codeAt : GoodIn wsX6_readsReach (wsV RX6 83 RX6 yX6_codeAt wsX6_codeAt) := goodIn_app (goodIn_of _ (by decide +kernel)) ggX6_readsReach_X6_codeAt
set_option maxRecDepth 20000 in
theorem ggX6_readsReach_X6_figure : GoodIn wsX6_readsReach wsX6_figure := goodIn_r _ [15, 2, 6, 7, 8, 9, 10, 11, 16, 17, 18, 19, 20, 21, 22, 23, 24, 25, 26, 27, 28, 29, 30, 31, 32, 33, 34, 35, 36, 37, 38, 39, 40, 41, 42, 43, 44, 45, 46, 47, 48] (by decide +kernel) (by decide +kernel)
set_option maxRecDepth 20000 in
theorem gX6_readsReach_X6_figure : GoodIn wsX6_readsReach (wsV RX6 90 RX6 yX6_figure wsX6_figure) := goodIn_app (goodIn_of _ (by decide +kernel)) ggX6_readsReach_X6_figure
theorem dX6_readsReach_0 : decode cX6_readsReach 0 = .ok (.aload_n 0, 1) := by decide +kernel
theorem dX6_readsReach_1 : decode cX6_readsReach 1 = .ok (.getfield 87, 3) := by decide +kernel
theorem dX6_readsReach_4 : decode cX6_readsReach 4 = .ok (.iconst 4, 1) := by decide +kernel
theorem dX6_readsReach_5 : decode cX6_readsReach 5 = .ok (.if_icmp .eq 14, 3) := by decide +kernel
theorem dX6_readsReach_8 : decode cX6_readsReach 8 = .ok (.aload_n 0, 1) := by decide +kernel
theorem dX6_readsReach_9 : decode cX6_readsReach 9 = .ok (.iload_n 1, 1) := by decide +kernel
theorem dX6_readsReach_10 : decode cX6_readsReach 10 = .ok (.iload_n 2, 1) := by decide +kernel
theorem dX6_readsReach_11 : decode cX6_readsReach 11 = .ok (.invokevirtual 83, 3) := by decide +kernel
theorem dX6_readsReach_14 : decode cX6_readsReach 14 = .ok (.bipush 59, 2) := by decide +kernel
theorem dX6_readsReach_16 : decode cX6_readsReach 16 = .ok (.if_icmp .eq 5, 3) := by decide +kernel
theorem dX6_readsReach_19 : decode cX6_readsReach 19 = .ok (.iconst 0, 1) := by decide +kernel
theorem dX6_readsReach_20 : decode cX6_readsReach 20 = .ok (.ireturn, 1) := by decide +kernel
theorem dX6_readsReach_21 : decode cX6_readsReach 21 = .ok (.aload_n 0, 1) := by decide +kernel
theorem dX6_readsReach_22 : decode cX6_readsReach 22 = .ok (.dup, 1) := by decide +kernel
theorem dX6_readsReach_23 : decode cX6_readsReach 23 = .ok (.getfield 80, 3) := by decide +kernel
theorem dX6_readsReach_26 : decode cX6_readsReach 26 = .ok (.iconst 1, 1) := by decide +kernel
theorem dX6_readsReach_27 : decode cX6_readsReach 27 = .ok (.iadd, 1) := by decide +kernel
theorem dX6_readsReach_28 : decode cX6_readsReach 28 = .ok (.putfield 80, 3) := by decide +kernel
theorem dX6_readsReach_31 : decode cX6_readsReach 31 = .ok (.aload_n 0, 1) := by decide +kernel
theorem dX6_readsReach_32 : decode cX6_readsReach 32 = .ok (.iload_n 1, 1) := by decide +kernel
theorem dX6_readsReach_33 : decode cX6_readsReach 33 = .ok (.iload_n 2, 1) := by decide +kernel
theorem dX6_readsReach_34 : decode cX6_readsReach 34 = .ok (.invokevirtual 83, 3) := by decide +kernel
theorem dX6_readsReach_37 : decode cX6_readsReach 37 = .ok (.istore_n 3, 1) := by decide +kernel
theorem dX6_readsReach_38 : decode cX6_readsReach 38 = .ok (.iload_n 3, 1) := by decide +kernel
theorem dX6_readsReach_39 : decode cX6_readsReach 39 = .ok (.bipush 109, 2) := by decide +kernel
theorem dX6_readsReach_41 : decode cX6_readsReach 41 = .ok (.if_icmp .eq 17, 3) := by decide +kernel
theorem dX6_readsReach_44 : decode cX6_readsReach 44 = .ok (.iload_n 3, 1) := by decide +kernel
theorem dX6_readsReach_45 : decode cX6_readsReach 45 = .ok (.bipush 112, 2) := by decide +kernel
theorem dX6_readsReach_47 : decode cX6_readsReach 47 = .ok (.if_icmp .eq 11, 3) := by decide +kernel
theorem dX6_readsReach_50 : decode cX6_readsReach 50 = .ok (.iload_n 3, 1) := by decide +kernel
theorem dX6_readsReach_51 : decode cX6_readsReach 51 = .ok (.bipush 115, 2) := by decide +kernel
theorem dX6_readsReach_53 : decode cX6_readsReach 53 = .ok (.if_icmp .eq 5, 3) := by decide +kernel
theorem dX6_readsReach_56 : decode cX6_readsReach 56 = .ok (.iconst 0, 1) := by decide +kernel
theorem dX6_readsReach_57 : decode cX6_readsReach 57 = .ok (.ireturn, 1) := by decide +kernel
theorem dX6_readsReach_58 : decode cX6_readsReach 58 = .ok (.aload_n 0, 1) := by decide +kernel
theorem dX6_readsReach_59 : decode cX6_readsReach 59 = .ok (.dup, 1) := by decide +kernel
theorem dX6_readsReach_60 : decode cX6_readsReach 60 = .ok (.getfield 80, 3) := by decide +kernel
theorem dX6_readsReach_63 : decode cX6_readsReach 63 = .ok (.iconst 1, 1) := by decide +kernel
theorem dX6_readsReach_64 : decode cX6_readsReach 64 = .ok (.iadd, 1) := by decide +kernel
theorem dX6_readsReach_65 : decode cX6_readsReach 65 = .ok (.putfield 80, 3) := by decide +kernel
theorem dX6_readsReach_68 : decode cX6_readsReach 68 = .ok (.aload_n 0, 1) := by decide +kernel
theorem dX6_readsReach_69 : decode cX6_readsReach 69 = .ok (.iload_n 1, 1) := by decide +kernel
theorem dX6_readsReach_70 : decode cX6_readsReach 70 = .ok (.iload_n 2, 1) := by decide +kernel
theorem dX6_readsReach_71 : decode cX6_readsReach 71 = .ok (.bipush 9, 2) := by decide +kernel
theorem dX6_readsReach_73 : decode cX6_readsReach 73 = .ok (.invokevirtual 90, 3) := by decide +kernel
theorem dX6_readsReach_76 : decode cX6_readsReach 76 = .ok (.istore 4, 2) := by decide +kernel
theorem dX6_readsReach_78 : decode cX6_readsReach 78 = .ok (.iload 4, 2) := by decide +kernel
theorem dX6_readsReach_80 : decode cX6_readsReach 80 = .ok (.ifCond .ge 8, 3) := by decide +kernel
theorem dX6_readsReach_83 : decode cX6_readsReach 83 = .ok (.bipush (-9), 2) := by decide +kernel
theorem dX6_readsReach_85 : decode cX6_readsReach 85 = .ok (.goto 11, 3) := by decide +kernel
theorem dX6_readsReach_88 : decode cX6_readsReach 88 = .ok (.aload_n 0, 1) := by decide +kernel
theorem dX6_readsReach_89 : decode cX6_readsReach 89 = .ok (.iload_n 1, 1) := by decide +kernel
theorem dX6_readsReach_90 : decode cX6_readsReach 90 = .ok (.iload_n 2, 1) := by decide +kernel
theorem dX6_readsReach_91 : decode cX6_readsReach 91 = .ok (.bipush 9, 2) := by decide +kernel
theorem dX6_readsReach_93 : decode cX6_readsReach 93 = .ok (.invokevirtual 90, 3) := by decide +kernel
theorem dX6_readsReach_96 : decode cX6_readsReach 96 = .ok (.istore 5, 2) := by decide +kernel
theorem dX6_readsReach_98 : decode cX6_readsReach 98 = .ok (.iload 5, 2) := by decide +kernel
theorem dX6_readsReach_100 : decode cX6_readsReach 100 = .ok (.ifCond .ge 5, 3) := by decide +kernel
theorem dX6_readsReach_103 : decode cX6_readsReach 103 = .ok (.iconst 0, 1) := by decide +kernel
theorem dX6_readsReach_104 : decode cX6_readsReach 104 = .ok (.ireturn, 1) := by decide +kernel
theorem dX6_readsReach_105 : decode cX6_readsReach 105 = .ok (.aload_n 0, 1) := by decide +kernel
theorem dX6_readsReach_106 : decode cX6_readsReach 106 = .ok (.getfield 19, 3) := by decide +kernel
theorem dX6_readsReach_109 : decode cX6_readsReach 109 = .ok (.aload_n 0, 1) := by decide +kernel
theorem dX6_readsReach_110 : decode cX6_readsReach 110 = .ok (.getfield 87, 3) := by decide +kernel
theorem dX6_readsReach_113 : decode cX6_readsReach 113 = .ok (.iload_n 3, 1) := by decide +kernel
theorem dX6_readsReach_114 : decode cX6_readsReach 114 = .ok (.bipush 109, 2) := by decide +kernel
theorem dX6_readsReach_116 : decode cX6_readsReach 116 = .ok (.if_icmp .ne 7, 3) := by decide +kernel
theorem dX6_readsReach_119 : decode cX6_readsReach 119 = .ok (.iconst 0, 1) := by decide +kernel
theorem dX6_readsReach_120 : decode cX6_readsReach 120 = .ok (.goto 14, 3) := by decide +kernel
theorem dX6_readsReach_123 : decode cX6_readsReach 123 = .ok (.iload_n 3, 1) := by decide +kernel
theorem dX6_readsReach_124 : decode cX6_readsReach 124 = .ok (.bipush 112, 2) := by decide +kernel
theorem dX6_readsReach_126 : decode cX6_readsReach 126 = .ok (.if_icmp .ne 7, 3) := by decide +kernel
theorem dX6_readsReach_129 : decode cX6_readsReach 129 = .ok (.iconst 1, 1) := by decide +kernel
theorem dX6_readsReach_130 : decode cX6_readsReach 130 = .ok (.goto 4, 3) := by decide +kernel
theorem dX6_readsReach_133 : decode cX6_readsReach 133 = .ok (.iconst 2, 1) := by decide +kernel
theorem dX6_readsReach_134 : decode cX6_readsReach 134 = .ok (.iastore, 1) := by decide +kernel
theorem dX6_readsReach_135 : decode cX6_readsReach 135 = .ok (.aload_n 0, 1) := by decide +kernel
theorem dX6_readsReach_136 : decode cX6_readsReach 136 = .ok (.getfield 22, 3) := by decide +kernel
theorem dX6_readsReach_139 : decode cX6_readsReach 139 = .ok (.aload_n 0, 1) := by decide +kernel
theorem dX6_readsReach_140 : decode cX6_readsReach 140 = .ok (.getfield 87, 3) := by decide +kernel
theorem dX6_readsReach_143 : decode cX6_readsReach 143 = .ok (.iload 4, 2) := by decide +kernel
theorem dX6_readsReach_145 : decode cX6_readsReach 145 = .ok (.iastore, 1) := by decide +kernel
theorem dX6_readsReach_146 : decode cX6_readsReach 146 = .ok (.aload_n 0, 1) := by decide +kernel
theorem dX6_readsReach_147 : decode cX6_readsReach 147 = .ok (.getfield 25, 3) := by decide +kernel
theorem dX6_readsReach_150 : decode cX6_readsReach 150 = .ok (.aload_n 0, 1) := by decide +kernel
theorem dX6_readsReach_151 : decode cX6_readsReach 151 = .ok (.getfield 87, 3) := by decide +kernel
theorem dX6_readsReach_154 : decode cX6_readsReach 154 = .ok (.iload 5, 2) := by decide +kernel
theorem dX6_readsReach_156 : decode cX6_readsReach 156 = .ok (.iastore, 1) := by decide +kernel
theorem dX6_readsReach_157 : decode cX6_readsReach 157 = .ok (.aload_n 0, 1) := by decide +kernel
theorem dX6_readsReach_158 : decode cX6_readsReach 158 = .ok (.dup, 1) := by decide +kernel
theorem dX6_readsReach_159 : decode cX6_readsReach 159 = .ok (.getfield 87, 3) := by decide +kernel
theorem dX6_readsReach_162 : decode cX6_readsReach 162 = .ok (.iconst 1, 1) := by decide +kernel
theorem dX6_readsReach_163 : decode cX6_readsReach 163 = .ok (.iadd, 1) := by decide +kernel
theorem dX6_readsReach_164 : decode cX6_readsReach 164 = .ok (.putfield 87, 3) := by decide +kernel
theorem dX6_readsReach_167 : decode cX6_readsReach 167 = .ok (.iconst 1, 1) := by decide +kernel
theorem dX6_readsReach_168 : decode cX6_readsReach 168 = .ok (.ireturn, 1) := by decide +kernel
set_option maxRecDepth 20000 in
theorem ggX6_readsCanal_X6_codeAt : GoodIn wsX6_readsCanal wsX6_codeAt := goodIn_r _ [8, 1, 9, 24, 25, 26, 27, 28, 29, 30, 31, 32, 33, 34, 35, 36, 37, 38, 39, 40, 41, 42, 43, 44, 45, 46, 47, 48, 49, 50, 51, 52, 53] (by decide +kernel) (by decide +kernel)
set_option maxRecDepth 20000 in
theorem gX6_readsCanal_X6_codeAt : GoodIn wsX6_readsCanal (wsV RX6 83 RX6 yX6_codeAt wsX6_codeAt) := goodIn_app (goodIn_of _ (by decide +kernel)) ggX6_readsCanal_X6_codeAt
set_option maxRecDepth 20000 in
theorem ggX6_readsCanal_X6_figure : GoodIn wsX6_readsCanal wsX6_figure := goodIn_r _ [13, 1, 4, 5, 6, 7, 8, 9, 14, 15, 16, 24, 25, 26, 27, 28, 29, 30, 31, 32, 33, 34, 35, 36, 37, 38, 39, 40, 41, 42, 43, 44, 45, 46, 47, 48, 49, 50, 51, 52, 53] (by decide +kernel) (by decide +kernel)
set_option maxRecDepth 20000 in
theorem gX6_readsCanal_X6_figure : GoodIn wsX6_readsCanal (wsV RX6 90 RX6 yX6_figure wsX6_figure) := goodIn_app (goodIn_of _ (by decide +kernel)) ggX6_readsCanal_X6_figure
set_option maxRecDepth 20000 in
theorem ggX6_readsCanal_X6_readsReach : GoodIn wsX6_readsCanal wsX6_readsReach := goodIn_r _ [20, 2, 1, 21, 22, 23, 4, 5, 6, 7, 8, 9, 10, 11, 12, 13, 14, 15, 16, 24, 25, 26, 27, 28, 29, 30, 31, 32, 33, 34, 35, 36, 37, 38, 39, 40, 41, 42, 43, 44, 45, 46, 47, 48, 49, 50, 51, 52, 53] (by decide +kernel) (by decide +kernel)
set_option maxRecDepth 20000 in
theorem gX6_readsCanal_X6_readsReach : GoodIn wsX6_readsCanal (wsV RX6 97 RX6 yX6_readsReach wsX6_readsReach) := goodIn_app (goodIn_of _ (by decide +kernel)) ggX6_readsCanal_X6_readsReach
theorem dX6_readsCanal_0 : decode cX6_readsCanal 0 = .ok (.aload_n 0, 1) := by decide +kernel
theorem dX6_readsCanal_1 : decode cX6_readsCanal 1 = .ok (.iconst 0, 1) := by decide +kernel
theorem dX6_readsCanal_2 : decode cX6_readsCanal 2 = .ok (.putfield 80, 3) := by decide +kernel
theorem dX6_readsCanal_5 : decode cX6_readsCanal 5 = .ok (.aload_n 0, 1) := by decide +kernel
theorem dX6_readsCanal_6 : decode cX6_readsCanal 6 = .ok (.iconst 0, 1) := by decide +kernel
theorem dX6_readsCanal_7 : decode cX6_readsCanal 7 = .ok (.putfield 87, 3) := by decide +kernel
theorem dX6_readsCanal_10 : decode cX6_readsCanal 10 = .ok (.aload_n 0, 1) := by decide +kernel
theorem dX6_readsCanal_11 : decode cX6_readsCanal 11 = .ok (.iload_n 1, 1) := by decide +kernel
theorem dX6_readsCanal_12 : decode cX6_readsCanal 12 = .ok (.iload_n 2, 1) := by decide +kernel
theorem dX6_readsCanal_13 : decode cX6_readsCanal 13 = .ok (.invokevirtual 83, 3) := by decide +kernel
theorem dX6_readsCanal_16 : decode cX6_readsCanal 16 = .ok (.bipush 108, 2) := by decide +kernel
theorem dX6_readsCanal_18 : decode cX6_readsCanal 18 = .ok (.if_icmp .ne 7, 3) := by decide +kernel
theorem dX6_readsCanal_21 : decode cX6_readsCanal 21 = .ok (.iconst 1, 1) := by decide +kernel
theorem dX6_readsCanal_22 : decode cX6_readsCanal 22 = .ok (.goto 4, 3) := by decide +kernel
theorem dX6_readsCanal_25 : decode cX6_readsCanal 25 = .ok (.iconst 0, 1) := by decide +kernel
theorem dX6_readsCanal_26 : decode cX6_readsCanal 26 = .ok (.istore_n 3, 1) := by decide +kernel
theorem dX6_readsCanal_27 : decode cX6_readsCanal 27 = .ok (.aload_n 0, 1) := by decide +kernel
theorem dX6_readsCanal_28 : decode cX6_readsCanal 28 = .ok (.dup, 1) := by decide +kernel
theorem dX6_readsCanal_29 : decode cX6_readsCanal 29 = .ok (.getfield 80, 3) := by decide +kernel
theorem dX6_readsCanal_32 : decode cX6_readsCanal 32 = .ok (.iload_n 3, 1) := by decide +kernel
theorem dX6_readsCanal_33 : decode cX6_readsCanal 33 = .ok (.ifCond .eq 7, 3) := by decide +kernel
theorem dX6_readsCanal_36 : decode cX6_readsCanal 36 = .ok (.iconst 1, 1) := by decide +kernel
theorem dX6_readsCanal_37 : decode cX6_readsCanal 37 = .ok (.goto 4, 3) := by decide +kernel
theorem dX6_readsCanal_40 : decode cX6_readsCanal 40 = .ok (.iconst 0, 1) := by decide +kernel
theorem dX6_readsCanal_41 : decode cX6_readsCanal 41 = .ok (.iadd, 1) := by decide +kernel
theorem dX6_readsCanal_42 : decode cX6_readsCanal 42 = .ok (.putfield 80, 3) := by decide +kernel
theorem dX6_readsCanal_45 : decode cX6_readsCanal 45 = .ok (.aload_n 0, 1) := by decide +kernel
theorem dX6_readsCanal_46 : decode cX6_readsCanal 46 = .ok (.iload_n 3, 1) := by decide +kernel
theorem dX6_readsCanal_47 : decode cX6_readsCanal 47 = .ok (.ifCond .eq 13, 3) := by decide +kernel
theorem dX6_readsCanal_50 : decode cX6_readsCanal 50 = .ok (.aload_n 0, 1) := by decide +kernel
theorem dX6_readsCanal_51 : decode cX6_readsCanal 51 = .ok (.iload_n 1, 1) := by decide +kernel
theorem dX6_readsCanal_52 : decode cX6_readsCanal 52 = .ok (.iload_n 2, 1) := by decide +kernel
theorem dX6_readsCanal_53 : decode cX6_readsCanal 53 = .ok (.iconst 3, 1) := by decide +kernel
theorem dX6_readsCanal_54 : decode cX6_readsCanal 54 = .ok (.invokevirtual 90, 3) := by decide +kernel
theorem dX6_readsCanal_57 : decode cX6_readsCanal 57 = .ok (.goto 5, 3) := by decide +kernel
theorem dX6_readsCanal_60 : decode cX6_readsCanal 60 = .ok (.bipush (-9), 2) := by decide +kernel
theorem dX6_readsCanal_62 : decode cX6_readsCanal 62 = .ok (.putfield 94, 3) := by decide +kernel
theorem dX6_readsCanal_65 : decode cX6_readsCanal 65 = .ok (.aload_n 0, 1) := by decide +kernel
theorem dX6_readsCanal_66 : decode cX6_readsCanal 66 = .ok (.getfield 94, 3) := by decide +kernel
theorem dX6_readsCanal_69 : decode cX6_readsCanal 69 = .ok (.ifCond .lt 7, 3) := by decide +kernel
theorem dX6_readsCanal_72 : decode cX6_readsCanal 72 = .ok (.iconst 1, 1) := by decide +kernel
theorem dX6_readsCanal_73 : decode cX6_readsCanal 73 = .ok (.goto 4, 3) := by decide +kernel
theorem dX6_readsCanal_76 : decode cX6_readsCanal 76 = .ok (.iconst 0, 1) := by decide +kernel
theorem dX6_readsCanal_77 : decode cX6_readsCanal 77 = .ok (.istore_n 3, 1) := by decide +kernel
theorem dX6_readsCanal_78 : decode cX6_readsCanal 78 = .ok (.iload_n 3, 1) := by decide +kernel
theorem dX6_readsCanal_79 : decode cX6_readsCanal 79 = .ok (.ifCond .eq 29, 3) := by decide +kernel
theorem dX6_readsCanal_82 : decode cX6_readsCanal 82 = .ok (.aload_n 0, 1) := by decide +kernel
theorem dX6_readsCanal_83 : decode cX6_readsCanal 83 = .ok (.getfield 87, 3) := by decide +kernel
theorem dX6_readsCanal_86 : decode cX6_readsCanal 86 = .ok (.iconst 2, 1) := by decide +kernel
theorem dX6_readsCanal_87 : decode cX6_readsCanal 87 = .ok (.if_icmp .lt 11, 3) := by decide +kernel
theorem dX6_readsCanal_90 : decode cX6_readsCanal 90 = .ok (.aload_n 0, 1) := by decide +kernel
theorem dX6_readsCanal_91 : decode cX6_readsCanal 91 = .ok (.getfield 80, 3) := by decide +kernel
theorem dX6_readsCanal_94 : decode cX6_readsCanal 94 = .ok (.iload_n 2, 1) := by decide +kernel
theorem dX6_readsCanal_95 : decode cX6_readsCanal 95 = .ok (.if_icmp .ge 13, 3) := by decide +kernel
theorem dX6_readsCanal_98 : decode cX6_readsCanal 98 = .ok (.aload_n 0, 1) := by decide +kernel
theorem dX6_readsCanal_99 : decode cX6_readsCanal 99 = .ok (.iload_n 1, 1) := by decide +kernel
theorem dX6_readsCanal_100 : decode cX6_readsCanal 100 = .ok (.iload_n 2, 1) := by decide +kernel
theorem dX6_readsCanal_101 : decode cX6_readsCanal 101 = .ok (.invokevirtual 97, 3) := by decide +kernel
theorem dX6_readsCanal_104 : decode cX6_readsCanal 104 = .ok (.istore_n 3, 1) := by decide +kernel
theorem dX6_readsCanal_105 : decode cX6_readsCanal 105 = .ok (.goto (-27), 3) := by decide +kernel
theorem dX6_readsCanal_108 : decode cX6_readsCanal 108 = .ok (.iload_n 3, 1) := by decide +kernel
theorem dX6_readsCanal_109 : decode cX6_readsCanal 109 = .ok (.ireturn, 1) := by decide +kernel
set_option maxRecDepth 20000 in
theorem ggX6_cellsBarred_X6_failed : GoodIn wsX6_cellsBarred wsX6_failed := goodIn_r _ [7, 8, 12, 13, 14, 15, 16, 17, 18, 19, 20, 21, 22, 23, 24, 25, 26, 27, 28, 29, 30, 31, 32, 33, 34, 35, 36, 37, 38, 39, 40, 41] (by decide +kernel) (by decide +kernel)
set_option maxRecDepth 20000 in
theorem gX6_cellsBarred_X6_failed : GoodIn wsX6_cellsBarred (wsV RX6 101 RX6 yX6_failed wsX6_failed) := goodIn_app (goodIn_of _ (by decide +kernel)) ggX6_cellsBarred_X6_failed
set_option maxRecDepth 20000 in
theorem ggX6_cellsBarred_X6_isBeyond : GoodIn wsX6_cellsBarred wsX6_isBeyond := goodIn_r _ [11] (by decide +kernel) (by decide +kernel)
set_option maxRecDepth 20000 in
theorem gX6_cellsBarred_X6_isBeyond : GoodIn wsX6_cellsBarred (va_wsS RX6 105 yX6_isBeyond wsX6_isBeyond) := goodIn_app (goodIn_of _ (by decide +kernel)) ggX6_cellsBarred_X6_isBeyond
theorem dX6_cellsBarred_0 : decode cX6_cellsBarred 0 = .ok (.aload_n 0, 1) := by decide +kernel
theorem dX6_cellsBarred_1 : decode cX6_cellsBarred 1 = .ok (.getfield 51, 3) := by decide +kernel
theorem dX6_cellsBarred_4 : decode cX6_cellsBarred 4 = .ok (.iload_n 1, 1) := by decide +kernel
theorem dX6_cellsBarred_5 : decode cX6_cellsBarred 5 = .ok (.iaload, 1) := by decide +kernel
theorem dX6_cellsBarred_6 : decode cX6_cellsBarred 6 = .ok (.ifCond .lt 19, 3) := by decide +kernel
theorem dX6_cellsBarred_9 : decode cX6_cellsBarred 9 = .ok (.aload_n 0, 1) := by decide +kernel
theorem dX6_cellsBarred_10 : decode cX6_cellsBarred 10 = .ok (.getfield 54, 3) := by decide +kernel
theorem dX6_cellsBarred_13 : decode cX6_cellsBarred 13 = .ok (.iload_n 1, 1) := by decide +kernel
theorem dX6_cellsBarred_14 : decode cX6_cellsBarred 14 = .ok (.iaload, 1) := by decide +kernel
theorem dX6_cellsBarred_15 : decode cX6_cellsBarred 15 = .ok (.iload_n 2, 1) := by decide +kernel
theorem dX6_cellsBarred_16 : decode cX6_cellsBarred 16 = .ok (.if_icmp .eq 9, 3) := by decide +kernel
theorem dX6_cellsBarred_19 : decode cX6_cellsBarred 19 = .ok (.aload_n 0, 1) := by decide +kernel
theorem dX6_cellsBarred_20 : decode cX6_cellsBarred 20 = .ok (.iconst 2, 1) := by decide +kernel
theorem dX6_cellsBarred_21 : decode cX6_cellsBarred 21 = .ok (.invokevirtual 101, 3) := by decide +kernel
theorem dX6_cellsBarred_24 : decode cX6_cellsBarred 24 = .ok (.ireturn, 1) := by decide +kernel
theorem dX6_cellsBarred_25 : decode cX6_cellsBarred 25 = .ok (.aload_n 0, 1) := by decide +kernel
theorem dX6_cellsBarred_26 : decode cX6_cellsBarred 26 = .ok (.getfield 51, 3) := by decide +kernel
theorem dX6_cellsBarred_29 : decode cX6_cellsBarred 29 = .ok (.iload_n 1, 1) := by decide +kernel
theorem dX6_cellsBarred_30 : decode cX6_cellsBarred 30 = .ok (.iaload, 1) := by decide +kernel
theorem dX6_cellsBarred_31 : decode cX6_cellsBarred 31 = .ok (.ifCond .ge 9, 3) := by decide +kernel
theorem dX6_cellsBarred_34 : decode cX6_cellsBarred 34 = .ok (.aload_n 0, 1) := by decide +kernel
theorem dX6_cellsBarred_35 : decode cX6_cellsBarred 35 = .ok (.iconst 1, 1) := by decide +kernel
theorem dX6_cellsBarred_36 : decode cX6_cellsBarred 36 = .ok (.invokevirtual 101, 3) := by decide +kernel
theorem dX6_cellsBarred_39 : decode cX6_cellsBarred 39 = .ok (.ireturn, 1) := by decide +kernel
theorem dX6_cellsBarred_40 : decode cX6_cellsBarred 40 = .ok (.lload 4, 2) := by decide +kernel
theorem dX6_cellsBarred_42 : decode cX6_cellsBarred 42 = .ok (.lconst 0, 1) := by decide +kernel
theorem dX6_cellsBarred_43 : decode cX6_cellsBarred 43 = .ok (.lcmp, 1) := by decide +kernel
theorem dX6_cellsBarred_44 : decode cX6_cellsBarred 44 = .ok (.ifCond .ge 9, 3) := by decide +kernel
theorem dX6_cellsBarred_47 : decode cX6_cellsBarred 47 = .ok (.aload_n 0, 1) := by decide +kernel
theorem dX6_cellsBarred_48 : decode cX6_cellsBarred 48 = .ok (.iconst 4, 1) := by decide +kernel
theorem dX6_cellsBarred_49 : decode cX6_cellsBarred 49 = .ok (.invokevirtual 101, 3) := by decide +kernel
theorem dX6_cellsBarred_52 : decode cX6_cellsBarred 52 = .ok (.ireturn, 1) := by decide +kernel
theorem dX6_cellsBarred_53 : decode cX6_cellsBarred 53 = .ok (.iload_n 3, 1) := by decide +kernel
theorem dX6_cellsBarred_54 : decode cX6_cellsBarred 54 = .ok (.lload 4, 2) := by decide +kernel
theorem dX6_cellsBarred_56 : decode cX6_cellsBarred 56 = .ok (.aload_n 0, 1) := by decide +kernel
theorem dX6_cellsBarred_57 : decode cX6_cellsBarred 57 = .ok (.getfield 51, 3) := by decide +kernel
theorem dX6_cellsBarred_60 : decode cX6_cellsBarred 60 = .ok (.iload_n 1, 1) := by decide +kernel
theorem dX6_cellsBarred_61 : decode cX6_cellsBarred 61 = .ok (.iaload, 1) := by decide +kernel
theorem dX6_cellsBarred_62 : decode cX6_cellsBarred 62 = .ok (.invokestatic 105, 3) := by decide +kernel
theorem dX6_cellsBarred_65 : decode cX6_cellsBarred 65 = .ok (.ifCond .eq 11, 3) := by decide +kernel
theorem dX6_cellsBarred_68 : decode cX6_cellsBarred 68 = .ok (.aload_n 0, 1) := by decide +kernel
theorem dX6_cellsBarred_69 : decode cX6_cellsBarred 69 = .ok (.iconst 3, 1) := by decide +kernel
theorem dX6_cellsBarred_70 : decode cX6_cellsBarred 70 = .ok (.invokevirtual 101, 3) := by decide +kernel
theorem dX6_cellsBarred_73 : decode cX6_cellsBarred 73 = .ok (.goto 4, 3) := by decide +kernel
theorem dX6_cellsBarred_76 : decode cX6_cellsBarred 76 = .ok (.iconst 0, 1) := by decide +kernel
theorem dX6_cellsBarred_77 : decode cX6_cellsBarred 77 = .ok (.ireturn, 1) := by decide +kernel
set_option maxRecDepth 20000 in
theorem ggX6_canal_X6_noSheet : GoodIn wsX6_canal wsX6_noSheet := goodIn_r _ [17, 18, 19, 20, 16, 21] (by decide +kernel) (by decide +kernel)
set_option maxRecDepth 20000 in
theorem gX6_canal_X6_noSheet : GoodIn wsX6_canal (va_wsS RX6 109 yX6_noSheet wsX6_noSheet) := goodIn_app (goodIn_of _ (by decide +kernel)) ggX6_canal_X6_noSheet
set_option maxRecDepth 20000 in
theorem ggX6_canal_X6_refused : GoodIn wsX6_canal wsX6_refused := goodIn_r _ [25, 26, 57, 58, 59, 60, 61, 62, 63, 64, 65, 66, 67, 68, 69, 70, 71, 72, 73, 74, 75, 76, 77, 78, 79, 80, 81, 82, 83, 84, 85, 86] (by decide +kernel) (by decide +kernel)
set_option maxRecDepth 20000 in
theorem gX6_canal_X6_refused : GoodIn wsX6_canal (wsV RX6 113 RX6 yX6_refused wsX6_refused) := goodIn_app (goodIn_of _ (by decide +kernel)) ggX6_canal_X6_refused
set_option maxRecDepth 20000 in
theorem ggX6_canal_X6_in : GoodIn wsX6_canal wsX6_in := goodIn_r _ [21] (by decide +kernel) (by decide +kernel)
set_option maxRecDepth 20000 in
theorem gX6_canal_X6_in : GoodIn wsX6_canal (va_wsS RX6 76 yX6_in wsX6_in) := goodIn_app (goodIn_of _ (by decide +kernel)) ggX6_canal_X6_in
set_option maxRecDepth 20000 in
theorem ggX6_canal_X6_cellsBarred : GoodIn wsX6_canal wsX6_cellsBarred := goodIn_r _ [30, 31, 32, 33, 34, 35, 16, 36, 26, 37, 38, 39, 57, 58, 59, 60, 61, 62, 63, 64, 65, 66, 67, 68, 69, 70, 71, 72, 73, 74, 75, 76, 77, 78, 79, 80, 81, 82, 83, 84, 85, 86] (by decide +kernel) (by decide +kernel)
set_option maxRecDepth 20000 in
theorem gX6_canal_X6_cellsBarred : GoodIn wsX6_canal (wsV RX6 118 RX6 yX6_cellsBarred wsX6_cellsBarred) := goodIn_app (goodIn_of _ (by decide +kernel)) ggX6_canal_X6_cellsBarred
set_option maxRecDepth 20000 in
theorem ggX6_canal_X6_readsCanal : GoodIn wsX6_canal wsX6_readsCanal := goodIn_r _ [43, 2, 5, 3, 44, 45, 46, 16, 47, 48, 49, 50, 51, 52, 19, 20, 21, 53, 54, 55, 56, 8, 10, 12, 57, 58, 59, 60, 61, 62, 63, 64, 65, 66, 67, 68, 69, 70, 71, 72, 73, 74, 75, 76, 77, 78, 79, 80, 81, 82, 83, 84, 85, 86] (by decide +kernel) (by decide +kernel)
set_option maxRecDepth 20000 in
theorem gX6_canal_X6_readsCanal : GoodIn wsX6_canal (wsV RX6 122 RX6 yX6_readsCanal wsX6_readsCanal) := goodIn_app (goodIn_of _ (by decide +kernel)) ggX6_canal_X6_readsCanal
theorem dX6_canal_0 : decode cX6_canal 0 = .ok (.iload_n 1, 1) := by decide +kernel
theorem dX6_canal_1 : decode cX6_canal 1 = .ok (.invokestatic 109, 3) := by decide +kernel
theorem dX6_canal_4 : decode cX6_canal 4 = .ok (.ifCond .eq 9, 3) := by decide +kernel
theorem dX6_canal_7 : decode cX6_canal 7 = .ok (.aload_n 0, 1) := by decide +kernel
theorem dX6_canal_8 : decode cX6_canal 8 = .ok (.iconst (-1), 1) := by decide +kernel
theorem dX6_canal_9 : decode cX6_canal 9 = .ok (.invokevirtual 113, 3) := by decide +kernel
theorem dX6_canal_12 : decode cX6_canal 12 = .ok (.ireturn, 1) := by decide +kernel
theorem dX6_canal_13 : decode cX6_canal 13 = .ok (.iload_n 2, 1) := by decide +kernel
theorem dX6_canal_14 : decode cX6_canal 14 = .ok (.i2l, 1) := by decide +kernel
theorem dX6_canal_15 : decode cX6_canal 15 = .ok (.lconst 0, 1) := by decide +kernel
theorem dX6_canal_16 : decode cX6_canal 16 = .ok (.ldc2_w 116, 3) := by decide +kernel
theorem dX6_canal_19 : decode cX6_canal 19 = .ok (.invokestatic 76, 3) := by decide +kernel
theorem dX6_canal_22 : decode cX6_canal 22 = .ok (.ifCond .ne 10, 3) := by decide +kernel
theorem dX6_canal_25 : decode cX6_canal 25 = .ok (.aload_n 0, 1) := by decide +kernel
theorem dX6_canal_26 : decode cX6_canal 26 = .ok (.bipush (-2), 2) := by decide +kernel
theorem dX6_canal_28 : decode cX6_canal 28 = .ok (.invokevirtual 113, 3) := by decide +kernel
theorem dX6_canal_31 : decode cX6_canal 31 = .ok (.ireturn, 1) := by decide +kernel
theorem dX6_canal_32 : decode cX6_canal 32 = .ok (.aload_n 0, 1) := by decide +kernel
theorem dX6_canal_33 : decode cX6_canal 33 = .ok (.iload_n 1, 1) := by decide +kernel
theorem dX6_canal_34 : decode cX6_canal 34 = .ok (.iload_n 2, 1) := by decide +kernel
theorem dX6_canal_35 : decode cX6_canal 35 = .ok (.iload_n 3, 1) := by decide +kernel
theorem dX6_canal_36 : decode cX6_canal 36 = .ok (.iload 4, 2) := by decide +kernel
theorem dX6_canal_38 : decode cX6_canal 38 = .ok (.i2l, 1) := by decide +kernel
theorem dX6_canal_39 : decode cX6_canal 39 = .ok (.invokevirtual 118, 3) := by decide +kernel
theorem dX6_canal_42 : decode cX6_canal 42 = .ok (.istore 5, 2) := by decide +kernel
theorem dX6_canal_44 : decode cX6_canal 44 = .ok (.iload 5, 2) := by decide +kernel
theorem dX6_canal_46 : decode cX6_canal 46 = .ok (.ifCond .ge 6, 3) := by decide +kernel
theorem dX6_canal_49 : decode cX6_canal 49 = .ok (.iload 5, 2) := by decide +kernel
theorem dX6_canal_51 : decode cX6_canal 51 = .ok (.ireturn, 1) := by decide +kernel
theorem dX6_canal_52 : decode cX6_canal 52 = .ok (.aload_n 0, 1) := by decide +kernel
theorem dX6_canal_53 : decode cX6_canal 53 = .ok (.bipush 60, 2) := by decide +kernel
theorem dX6_canal_55 : decode cX6_canal 55 = .ok (.iload_n 1, 1) := by decide +kernel
theorem dX6_canal_56 : decode cX6_canal 56 = .ok (.imul, 1) := by decide +kernel
theorem dX6_canal_57 : decode cX6_canal 57 = .ok (.iload_n 3, 1) := by decide +kernel
theorem dX6_canal_58 : decode cX6_canal 58 = .ok (.iadd, 1) := by decide +kernel
theorem dX6_canal_59 : decode cX6_canal 59 = .ok (.iload 4, 2) := by decide +kernel
theorem dX6_canal_61 : decode cX6_canal 61 = .ok (.invokevirtual 122, 3) := by decide +kernel
theorem dX6_canal_64 : decode cX6_canal 64 = .ok (.ifCond .ne 15, 3) := by decide +kernel
theorem dX6_canal_67 : decode cX6_canal 67 = .ok (.aload_n 0, 1) := by decide +kernel
theorem dX6_canal_68 : decode cX6_canal 68 = .ok (.bipush (-100), 2) := by decide +kernel
theorem dX6_canal_70 : decode cX6_canal 70 = .ok (.aload_n 0, 1) := by decide +kernel
theorem dX6_canal_71 : decode cX6_canal 71 = .ok (.getfield 80, 3) := by decide +kernel
theorem dX6_canal_74 : decode cX6_canal 74 = .ok (.isub, 1) := by decide +kernel
theorem dX6_canal_75 : decode cX6_canal 75 = .ok (.invokevirtual 113, 3) := by decide +kernel
theorem dX6_canal_78 : decode cX6_canal 78 = .ok (.ireturn, 1) := by decide +kernel
theorem dX6_canal_79 : decode cX6_canal 79 = .ok (.aload_n 0, 1) := by decide +kernel
theorem dX6_canal_80 : decode cX6_canal 80 = .ok (.aload_n 0, 1) := by decide +kernel
theorem dX6_canal_81 : decode cX6_canal 81 = .ok (.getfield 94, 3) := by decide +kernel
theorem dX6_canal_84 : decode cX6_canal 84 = .ok (.putfield 125, 3) := by decide +kernel
theorem dX6_canal_87 : decode cX6_canal 87 = .ok (.aload_n 0, 1) := by decide +kernel
theorem dX6_canal_88 : decode cX6_canal 88 = .ok (.aload_n 0, 1) := by decide +kernel
theorem dX6_canal_89 : decode cX6_canal 89 = .ok (.getfield 87, 3) := by decide +kernel
theorem dX6_canal_92 : decode cX6_canal 92 = .ok (.putfield 73, 3) := by decide +kernel
theorem dX6_canal_95 : decode cX6_canal 95 = .ok (.iconst 0, 1) := by decide +kernel
theorem dX6_canal_96 : decode cX6_canal 96 = .ok (.istore 6, 2) := by decide +kernel
theorem dX6_canal_98 : decode cX6_canal 98 = .ok (.iload 6, 2) := by decide +kernel
theorem dX6_canal_100 : decode cX6_canal 100 = .ok (.aload_n 0, 1) := by decide +kernel
theorem dX6_canal_101 : decode cX6_canal 101 = .ok (.getfield 73, 3) := by decide +kernel
theorem dX6_canal_104 : decode cX6_canal 104 = .ok (.if_icmp .ge 51, 3) := by decide +kernel
theorem dX6_canal_107 : decode cX6_canal 107 = .ok (.aload_n 0, 1) := by decide +kernel
theorem dX6_canal_108 : decode cX6_canal 108 = .ok (.getfield 7, 3) := by decide +kernel
theorem dX6_canal_111 : decode cX6_canal 111 = .ok (.iload 6, 2) := by decide +kernel
theorem dX6_canal_113 : decode cX6_canal 113 = .ok (.aload_n 0, 1) := by decide +kernel
theorem dX6_canal_114 : decode cX6_canal 114 = .ok (.getfield 19, 3) := by decide +kernel
theorem dX6_canal_117 : decode cX6_canal 117 = .ok (.iload 6, 2) := by decide +kernel
theorem dX6_canal_119 : decode cX6_canal 119 = .ok (.iaload, 1) := by decide +kernel
theorem dX6_canal_120 : decode cX6_canal 120 = .ok (.iastore, 1) := by decide +kernel
theorem dX6_canal_121 : decode cX6_canal 121 = .ok (.aload_n 0, 1) := by decide +kernel
theorem dX6_canal_122 : decode cX6_canal 122 = .ok (.getfield 13, 3) := by decide +kernel
theorem dX6_canal_125 : decode cX6_canal 125 = .ok (.iload 6, 2) := by decide +kernel
theorem dX6_canal_127 : decode cX6_canal 127 = .ok (.aload_n 0, 1) := by decide +kernel
theorem dX6_canal_128 : decode cX6_canal 128 = .ok (.getfield 22, 3) := by decide +kernel
theorem dX6_canal_131 : decode cX6_canal 131 = .ok (.iload 6, 2) := by decide +kernel
theorem dX6_canal_133 : decode cX6_canal 133 = .ok (.iaload, 1) := by decide +kernel
theorem dX6_canal_134 : decode cX6_canal 134 = .ok (.iastore, 1) := by decide +kernel
theorem dX6_canal_135 : decode cX6_canal 135 = .ok (.aload_n 0, 1) := by decide +kernel
theorem dX6_canal_136 : decode cX6_canal 136 = .ok (.getfield 16, 3) := by decide +kernel
theorem dX6_canal_139 : decode cX6_canal 139 = .ok (.iload 6, 2) := by decide +kernel
theorem dX6_canal_141 : decode cX6_canal 141 = .ok (.aload_n 0, 1) := by decide +kernel
theorem dX6_canal_142 : decode cX6_canal 142 = .ok (.getfield 25, 3) := by decide +kernel
theorem dX6_canal_145 : decode cX6_canal 145 = .ok (.iload 6, 2) := by decide +kernel
theorem dX6_canal_147 : decode cX6_canal 147 = .ok (.iaload, 1) := by decide +kernel
theorem dX6_canal_148 : decode cX6_canal 148 = .ok (.iastore, 1) := by decide +kernel
theorem dX6_canal_149 : decode cX6_canal 149 = .ok (.iinc 6 1, 3) := by decide +kernel
theorem dX6_canal_152 : decode cX6_canal 152 = .ok (.goto (-54), 3) := by decide +kernel
theorem dX6_canal_155 : decode cX6_canal 155 = .ok (.aload_n 0, 1) := by decide +kernel
theorem dX6_canal_156 : decode cX6_canal 156 = .ok (.iconst 0, 1) := by decide +kernel
theorem dX6_canal_157 : decode cX6_canal 157 = .ok (.putfield 128, 3) := by decide +kernel
theorem dX6_canal_160 : decode cX6_canal 160 = .ok (.aload_n 0, 1) := by decide +kernel
theorem dX6_canal_161 : decode cX6_canal 161 = .ok (.aload_n 0, 1) := by decide +kernel
theorem dX6_canal_162 : decode cX6_canal 162 = .ok (.getfield 73, 3) := by decide +kernel
theorem dX6_canal_165 : decode cX6_canal 165 = .ok (.invokevirtual 113, 3) := by decide +kernel
theorem dX6_canal_168 : decode cX6_canal 168 = .ok (.ireturn, 1) := by decide +kernel
theorem dX6_wantOf_0 : decode cX6_wantOf 0 = .ok (.aload_n 0, 1) := by decide +kernel
theorem dX6_wantOf_1 : decode cX6_wantOf 1 = .ok (.getfield 16, 3) := by decide +kernel
theorem dX6_wantOf_4 : decode cX6_wantOf 4 = .ok (.iload_n 1, 1) := by decide +kernel
theorem dX6_wantOf_5 : decode cX6_wantOf 5 = .ok (.iaload, 1) := by decide +kernel
theorem dX6_wantOf_6 : decode cX6_wantOf 6 = .ok (.ifCond .le 14, 3) := by decide +kernel
theorem dX6_wantOf_9 : decode cX6_wantOf 9 = .ok (.aload_n 0, 1) := by decide +kernel
theorem dX6_wantOf_10 : decode cX6_wantOf 10 = .ok (.getfield 16, 3) := by decide +kernel
theorem dX6_wantOf_13 : decode cX6_wantOf 13 = .ok (.iload_n 1, 1) := by decide +kernel
theorem dX6_wantOf_14 : decode cX6_wantOf 14 = .ok (.iaload, 1) := by decide +kernel
theorem dX6_wantOf_15 : decode cX6_wantOf 15 = .ok (.iconst 1, 1) := by decide +kernel
theorem dX6_wantOf_16 : decode cX6_wantOf 16 = .ok (.isub, 1) := by decide +kernel
theorem dX6_wantOf_17 : decode cX6_wantOf 17 = .ok (.goto 4, 3) := by decide +kernel
theorem dX6_wantOf_20 : decode cX6_wantOf 20 = .ok (.iconst 0, 1) := by decide +kernel
theorem dX6_wantOf_21 : decode cX6_wantOf 21 = .ok (.istore_n 2, 1) := by decide +kernel
theorem dX6_wantOf_22 : decode cX6_wantOf 22 = .ok (.aload_n 0, 1) := by decide +kernel
theorem dX6_wantOf_23 : decode cX6_wantOf 23 = .ok (.getfield 7, 3) := by decide +kernel
theorem dX6_wantOf_26 : decode cX6_wantOf 26 = .ok (.iload_n 1, 1) := by decide +kernel
theorem dX6_wantOf_27 : decode cX6_wantOf 27 = .ok (.iaload, 1) := by decide +kernel
theorem dX6_wantOf_28 : decode cX6_wantOf 28 = .ok (.ifCond .ne 12, 3) := by decide +kernel
theorem dX6_wantOf_31 : decode cX6_wantOf 31 = .ok (.aload_n 0, 1) := by decide +kernel
theorem dX6_wantOf_32 : decode cX6_wantOf 32 = .ok (.getfield 16, 3) := by decide +kernel
theorem dX6_wantOf_35 : decode cX6_wantOf 35 = .ok (.iload_n 1, 1) := by decide +kernel
theorem dX6_wantOf_36 : decode cX6_wantOf 36 = .ok (.iaload, 1) := by decide +kernel
theorem dX6_wantOf_37 : decode cX6_wantOf 37 = .ok (.goto 20, 3) := by decide +kernel
theorem dX6_wantOf_40 : decode cX6_wantOf 40 = .ok (.aload_n 0, 1) := by decide +kernel
theorem dX6_wantOf_41 : decode cX6_wantOf 41 = .ok (.getfield 7, 3) := by decide +kernel
theorem dX6_wantOf_44 : decode cX6_wantOf 44 = .ok (.iload_n 1, 1) := by decide +kernel
theorem dX6_wantOf_45 : decode cX6_wantOf 45 = .ok (.iaload, 1) := by decide +kernel
theorem dX6_wantOf_46 : decode cX6_wantOf 46 = .ok (.iconst 1, 1) := by decide +kernel
theorem dX6_wantOf_47 : decode cX6_wantOf 47 = .ok (.if_icmp .ne 7, 3) := by decide +kernel
theorem dX6_wantOf_50 : decode cX6_wantOf 50 = .ok (.iload_n 2, 1) := by decide +kernel
theorem dX6_wantOf_51 : decode cX6_wantOf 51 = .ok (.goto 6, 3) := by decide +kernel
theorem dX6_wantOf_54 : decode cX6_wantOf 54 = .ok (.iload_n 2, 1) := by decide +kernel
theorem dX6_wantOf_55 : decode cX6_wantOf 55 = .ok (.iconst 2, 1) := by decide +kernel
theorem dX6_wantOf_56 : decode cX6_wantOf 56 = .ok (.idiv, 1) := by decide +kernel
theorem dX6_wantOf_57 : decode cX6_wantOf 57 = .ok (.ireturn, 1) := by decide +kernel
set_option maxRecDepth 20000 in
theorem ggX6_ofReach_X6_noReach : GoodIn wsX6_ofReach wsX6_noReach := goodIn_r _ [8, 9, 10, 11, 7, 12, 17, 18, 19, 20, 21, 22, 23, 24, 25, 26, 27, 28, 29, 30, 31, 32, 33, 34, 35, 36, 37, 38, 39, 40, 41, 42, 43, 44, 45, 46] (by decide +kernel) (by decide +kernel)
set_option maxRecDepth 20000 in
theorem gX6_ofReach_X6_noReach : GoodIn wsX6_ofReach (wsV RX6 131 RX6 yX6_noReach wsX6_noReach) := goodIn_app (goodIn_of _ (by decide +kernel)) ggX6_ofReach_X6_noReach
set_option maxRecDepth 20000 in
theorem ggX6_ofReach_X6_wantOf : GoodIn wsX6_ofReach wsX6_wantOf := goodIn_r _ [16, 3, 1, 17, 18, 19, 20, 21, 22, 23, 24, 25, 26, 27, 28, 29, 30, 31, 32, 33, 34, 35, 36, 37, 38, 39, 40, 41, 42, 43, 44, 45, 46] (by decide +kernel) (by decide +kernel)
set_option maxRecDepth 20000 in
theorem gX6_ofReach_X6_wantOf : GoodIn wsX6_ofReach (wsV RX6 134 RX6 yX6_wantOf wsX6_wantOf) := goodIn_app (goodIn_of _ (by decide +kernel)) ggX6_ofReach_X6_wantOf
theorem dX6_ofReach_0 : decode cX6_ofReach 0 = .ok (.aload_n 0, 1) := by decide +kernel
theorem dX6_ofReach_1 : decode cX6_ofReach 1 = .ok (.iload_n 1, 1) := by decide +kernel
theorem dX6_ofReach_2 : decode cX6_ofReach 2 = .ok (.invokevirtual 131, 3) := by decide +kernel
theorem dX6_ofReach_5 : decode cX6_ofReach 5 = .ok (.ifCond .eq 5, 3) := by decide +kernel
theorem dX6_ofReach_8 : decode cX6_ofReach 8 = .ok (.iconst (-1), 1) := by decide +kernel
theorem dX6_ofReach_9 : decode cX6_ofReach 9 = .ok (.ireturn, 1) := by decide +kernel
theorem dX6_ofReach_10 : decode cX6_ofReach 10 = .ok (.iload_n 2, 1) := by decide +kernel
theorem dX6_ofReach_11 : decode cX6_ofReach 11 = .ok (.tableswitch 56 0 3 #[29, 36, 43, 50], 29) := by decide +kernel
theorem dX6_ofReach_40 : decode cX6_ofReach 40 = .ok (.aload_n 0, 1) := by decide +kernel
theorem dX6_ofReach_41 : decode cX6_ofReach 41 = .ok (.getfield 7, 3) := by decide +kernel
theorem dX6_ofReach_44 : decode cX6_ofReach 44 = .ok (.iload_n 1, 1) := by decide +kernel
theorem dX6_ofReach_45 : decode cX6_ofReach 45 = .ok (.iaload, 1) := by decide +kernel
theorem dX6_ofReach_46 : decode cX6_ofReach 46 = .ok (.ireturn, 1) := by decide +kernel
theorem dX6_ofReach_47 : decode cX6_ofReach 47 = .ok (.aload_n 0, 1) := by decide +kernel
theorem dX6_ofReach_48 : decode cX6_ofReach 48 = .ok (.getfield 13, 3) := by decide +kernel
theorem dX6_ofReach_51 : decode cX6_ofReach 51 = .ok (.iload_n 1, 1) := by decide +kernel
theorem dX6_ofReach_52 : decode cX6_ofReach 52 = .ok (.iaload, 1) := by decide +kernel
theorem dX6_ofReach_53 : decode cX6_ofReach 53 = .ok (.ireturn, 1) := by decide +kernel
theorem dX6_ofReach_54 : decode cX6_ofReach 54 = .ok (.aload_n 0, 1) := by decide +kernel
theorem dX6_ofReach_55 : decode cX6_ofReach 55 = .ok (.getfield 16, 3) := by decide +kernel
theorem dX6_ofReach_58 : decode cX6_ofReach 58 = .ok (.iload_n 1, 1) := by decide +kernel
theorem dX6_ofReach_59 : decode cX6_ofReach 59 = .ok (.iaload, 1) := by decide +kernel
theorem dX6_ofReach_60 : decode cX6_ofReach 60 = .ok (.ireturn, 1) := by decide +kernel
theorem dX6_ofReach_61 : decode cX6_ofReach 61 = .ok (.aload_n 0, 1) := by decide +kernel
theorem dX6_ofReach_62 : decode cX6_ofReach 62 = .ok (.iload_n 1, 1) := by decide +kernel
theorem dX6_ofReach_63 : decode cX6_ofReach 63 = .ok (.invokevirtual 134, 3) := by decide +kernel
theorem dX6_ofReach_66 : decode cX6_ofReach 66 = .ok (.ireturn, 1) := by decide +kernel
theorem dX6_ofReach_67 : decode cX6_ofReach 67 = .ok (.bipush (-2), 2) := by decide +kernel
theorem dX6_ofReach_69 : decode cX6_ofReach 69 = .ok (.ireturn, 1) := by decide +kernel
set_option maxRecDepth 20000 in
theorem ggX6_fill_X6_noReach : GoodIn wsX6_fill wsX6_noReach := goodIn_r _ [7, 8, 9, 10, 6, 11, 12, 13, 14, 15, 16, 17, 18, 19, 20, 21, 22, 23, 24, 25, 26, 27, 28, 29, 30, 31, 32, 33, 34, 35, 36, 37, 38, 39, 40, 41] (by decide +kernel) (by decide +kernel)
set_option maxRecDepth 20000 in
theorem gX6_fill_X6_noReach : GoodIn wsX6_fill (wsV RX6 131 RX6 yX6_noReach wsX6_noReach) := goodIn_app (goodIn_of _ (by decide +kernel)) ggX6_fill_X6_noReach
set_option maxRecDepth 20000 in
theorem ggX6_fill_X6_in : GoodIn wsX6_fill wsX6_in := goodIn_r _ [11] (by decide +kernel) (by decide +kernel)
set_option maxRecDepth 20000 in
theorem gX6_fill_X6_in : GoodIn wsX6_fill (va_wsS RX6 76 yX6_in wsX6_in) := goodIn_app (goodIn_of _ (by decide +kernel)) ggX6_fill_X6_in
theorem dX6_fill_0 : decode cX6_fill 0 = .ok (.aload_n 0, 1) := by decide +kernel
theorem dX6_fill_1 : decode cX6_fill 1 = .ok (.iload_n 1, 1) := by decide +kernel
theorem dX6_fill_2 : decode cX6_fill 2 = .ok (.invokevirtual 131, 3) := by decide +kernel
theorem dX6_fill_5 : decode cX6_fill 5 = .ok (.ifCond .eq 5, 3) := by decide +kernel
theorem dX6_fill_8 : decode cX6_fill 8 = .ok (.iconst (-1), 1) := by decide +kernel
theorem dX6_fill_9 : decode cX6_fill 9 = .ok (.ireturn, 1) := by decide +kernel
theorem dX6_fill_10 : decode cX6_fill 10 = .ok (.iload_n 2, 1) := by decide +kernel
theorem dX6_fill_11 : decode cX6_fill 11 = .ok (.i2l, 1) := by decide +kernel
theorem dX6_fill_12 : decode cX6_fill 12 = .ok (.lconst 0, 1) := by decide +kernel
theorem dX6_fill_13 : decode cX6_fill 13 = .ok (.ldc2_w 137, 3) := by decide +kernel
theorem dX6_fill_16 : decode cX6_fill 16 = .ok (.invokestatic 76, 3) := by decide +kernel
theorem dX6_fill_19 : decode cX6_fill 19 = .ok (.ifCond .ne 6, 3) := by decide +kernel
theorem dX6_fill_22 : decode cX6_fill 22 = .ok (.bipush (-2), 2) := by decide +kernel
theorem dX6_fill_24 : decode cX6_fill 24 = .ok (.ireturn, 1) := by decide +kernel
theorem dX6_fill_25 : decode cX6_fill 25 = .ok (.aload_n 0, 1) := by decide +kernel
theorem dX6_fill_26 : decode cX6_fill 26 = .ok (.getfield 13, 3) := by decide +kernel
theorem dX6_fill_29 : decode cX6_fill 29 = .ok (.iload_n 1, 1) := by decide +kernel
theorem dX6_fill_30 : decode cX6_fill 30 = .ok (.iaload, 1) := by decide +kernel
theorem dX6_fill_31 : decode cX6_fill 31 = .ok (.istore_n 3, 1) := by decide +kernel
theorem dX6_fill_32 : decode cX6_fill 32 = .ok (.aload_n 0, 1) := by decide +kernel
theorem dX6_fill_33 : decode cX6_fill 33 = .ok (.getfield 13, 3) := by decide +kernel
theorem dX6_fill_36 : decode cX6_fill 36 = .ok (.iload_n 1, 1) := by decide +kernel
theorem dX6_fill_37 : decode cX6_fill 37 = .ok (.iload_n 2, 1) := by decide +kernel
theorem dX6_fill_38 : decode cX6_fill 38 = .ok (.iastore, 1) := by decide +kernel
theorem dX6_fill_39 : decode cX6_fill 39 = .ok (.iload_n 3, 1) := by decide +kernel
theorem dX6_fill_40 : decode cX6_fill 40 = .ok (.ireturn, 1) := by decide +kernel
set_option maxRecDepth 20000 in
theorem ggX6_rain_X6_in : GoodIn wsX6_rain wsX6_in := goodIn_r _ [7] (by decide +kernel) (by decide +kernel)
set_option maxRecDepth 20000 in
theorem gX6_rain_X6_in : GoodIn wsX6_rain (va_wsS RX6 76 yX6_in wsX6_in) := goodIn_app (goodIn_of _ (by decide +kernel)) ggX6_rain_X6_in
theorem dX6_rain_0 : decode cX6_rain 0 = .ok (.iload_n 1, 1) := by decide +kernel
theorem dX6_rain_1 : decode cX6_rain 1 = .ok (.i2l, 1) := by decide +kernel
theorem dX6_rain_2 : decode cX6_rain 2 = .ok (.lconst 0, 1) := by decide +kernel
theorem dX6_rain_3 : decode cX6_rain 3 = .ok (.ldc2_w 139, 3) := by decide +kernel
theorem dX6_rain_6 : decode cX6_rain 6 = .ok (.invokestatic 76, 3) := by decide +kernel
theorem dX6_rain_9 : decode cX6_rain 9 = .ok (.ifCond .ne 6, 3) := by decide +kernel
theorem dX6_rain_12 : decode cX6_rain 12 = .ok (.bipush (-2), 2) := by decide +kernel
theorem dX6_rain_14 : decode cX6_rain 14 = .ok (.ireturn, 1) := by decide +kernel
theorem dX6_rain_15 : decode cX6_rain 15 = .ok (.aload_n 0, 1) := by decide +kernel
theorem dX6_rain_16 : decode cX6_rain 16 = .ok (.getfield 73, 3) := by decide +kernel
theorem dX6_rain_19 : decode cX6_rain 19 = .ok (.ifCond .ne 6, 3) := by decide +kernel
theorem dX6_rain_22 : decode cX6_rain 22 = .ok (.bipush (-3), 2) := by decide +kernel
theorem dX6_rain_24 : decode cX6_rain 24 = .ok (.ireturn, 1) := by decide +kernel
theorem dX6_rain_25 : decode cX6_rain 25 = .ok (.aload_n 0, 1) := by decide +kernel
theorem dX6_rain_26 : decode cX6_rain 26 = .ok (.getfield 125, 3) := by decide +kernel
theorem dX6_rain_29 : decode cX6_rain 29 = .ok (.istore_n 2, 1) := by decide +kernel
theorem dX6_rain_30 : decode cX6_rain 30 = .ok (.aload_n 0, 1) := by decide +kernel
theorem dX6_rain_31 : decode cX6_rain 31 = .ok (.iload_n 1, 1) := by decide +kernel
theorem dX6_rain_32 : decode cX6_rain 32 = .ok (.putfield 125, 3) := by decide +kernel
theorem dX6_rain_35 : decode cX6_rain 35 = .ok (.iload_n 2, 1) := by decide +kernel
theorem dX6_rain_36 : decode cX6_rain 36 = .ok (.ireturn, 1) := by decide +kernel
theorem dX6_begin_0 : decode cX6_begin 0 = .ok (.iconst 0, 1) := by decide +kernel
theorem dX6_begin_1 : decode cX6_begin 1 = .ok (.istore_n 1, 1) := by decide +kernel
theorem dX6_begin_2 : decode cX6_begin 2 = .ok (.iload_n 1, 1) := by decide +kernel
theorem dX6_begin_3 : decode cX6_begin 3 = .ok (.aload_n 0, 1) := by decide +kernel
theorem dX6_begin_4 : decode cX6_begin 4 = .ok (.getfield 73, 3) := by decide +kernel
theorem dX6_begin_7 : decode cX6_begin 7 = .ok (.if_icmp .ge 21, 3) := by decide +kernel
theorem dX6_begin_10 : decode cX6_begin 10 = .ok (.aload_n 0, 1) := by decide +kernel
theorem dX6_begin_11 : decode cX6_begin 11 = .ok (.getfield 28, 3) := by decide +kernel
theorem dX6_begin_14 : decode cX6_begin 14 = .ok (.iload_n 1, 1) := by decide +kernel
theorem dX6_begin_15 : decode cX6_begin 15 = .ok (.aload_n 0, 1) := by decide +kernel
theorem dX6_begin_16 : decode cX6_begin 16 = .ok (.getfield 13, 3) := by decide +kernel
theorem dX6_begin_19 : decode cX6_begin 19 = .ok (.iload_n 1, 1) := by decide +kernel
theorem dX6_begin_20 : decode cX6_begin 20 = .ok (.iaload, 1) := by decide +kernel
theorem dX6_begin_21 : decode cX6_begin 21 = .ok (.iastore, 1) := by decide +kernel
theorem dX6_begin_22 : decode cX6_begin 22 = .ok (.iinc 1 1, 3) := by decide +kernel
theorem dX6_begin_25 : decode cX6_begin 25 = .ok (.goto (-23), 3) := by decide +kernel
theorem dX6_begin_28 : decode cX6_begin 28 = .ok (.return_, 1) := by decide +kernel
theorem dX6_end_0 : decode cX6_end 0 = .ok (.iconst 0, 1) := by decide +kernel
theorem dX6_end_1 : decode cX6_end 1 = .ok (.istore_n 1, 1) := by decide +kernel
theorem dX6_end_2 : decode cX6_end 2 = .ok (.iload_n 1, 1) := by decide +kernel
theorem dX6_end_3 : decode cX6_end 3 = .ok (.aload_n 0, 1) := by decide +kernel
theorem dX6_end_4 : decode cX6_end 4 = .ok (.getfield 73, 3) := by decide +kernel
theorem dX6_end_7 : decode cX6_end 7 = .ok (.if_icmp .ge 21, 3) := by decide +kernel
theorem dX6_end_10 : decode cX6_end 10 = .ok (.aload_n 0, 1) := by decide +kernel
theorem dX6_end_11 : decode cX6_end 11 = .ok (.getfield 13, 3) := by decide +kernel
theorem dX6_end_14 : decode cX6_end 14 = .ok (.iload_n 1, 1) := by decide +kernel
theorem dX6_end_15 : decode cX6_end 15 = .ok (.aload_n 0, 1) := by decide +kernel
theorem dX6_end_16 : decode cX6_end 16 = .ok (.getfield 28, 3) := by decide +kernel
theorem dX6_end_19 : decode cX6_end 19 = .ok (.iload_n 1, 1) := by decide +kernel
theorem dX6_end_20 : decode cX6_end 20 = .ok (.iaload, 1) := by decide +kernel
theorem dX6_end_21 : decode cX6_end 21 = .ok (.iastore, 1) := by decide +kernel
theorem dX6_end_22 : decode cX6_end 22 = .ok (.iinc 1 1, 3) := by decide +kernel
theorem dX6_end_25 : decode cX6_end 25 = .ok (.goto (-23), 3) := by decide +kernel
theorem dX6_end_28 : decode cX6_end 28 = .ok (.return_, 1) := by decide +kernel
set_option maxRecDepth 20000 in
theorem ggX6_mayOpen_X6_wantOf : GoodIn wsX6_mayOpen wsX6_wantOf := goodIn_r _ [6, 7, 8, 9, 10, 11, 12, 13, 14, 15, 16, 17, 18, 19, 20, 21, 22, 23, 24, 25, 26, 27, 28, 29, 30, 31, 32, 33, 34, 35, 36, 37, 38] (by decide +kernel) (by decide +kernel)
set_option maxRecDepth 20000 in
theorem gX6_mayOpen_X6_wantOf : GoodIn wsX6_mayOpen (wsV RX6 134 RX6 yX6_wantOf wsX6_wantOf) := goodIn_app (goodIn_of _ (by decide +kernel)) ggX6_mayOpen_X6_wantOf
theorem dX6_mayOpen_0 : decode cX6_mayOpen 0 = .ok (.aload_n 0, 1) := by decide +kernel
theorem dX6_mayOpen_1 : decode cX6_mayOpen 1 = .ok (.getfield 28, 3) := by decide +kernel
theorem dX6_mayOpen_4 : decode cX6_mayOpen 4 = .ok (.iload_n 1, 1) := by decide +kernel
theorem dX6_mayOpen_5 : decode cX6_mayOpen 5 = .ok (.iaload, 1) := by decide +kernel
theorem dX6_mayOpen_6 : decode cX6_mayOpen 6 = .ok (.ifCond .le 25, 3) := by decide +kernel
theorem dX6_mayOpen_9 : decode cX6_mayOpen 9 = .ok (.aload_n 0, 1) := by decide +kernel
theorem dX6_mayOpen_10 : decode cX6_mayOpen 10 = .ok (.getfield 28, 3) := by decide +kernel
theorem dX6_mayOpen_13 : decode cX6_mayOpen 13 = .ok (.iload_n 1, 1) := by decide +kernel
theorem dX6_mayOpen_14 : decode cX6_mayOpen 14 = .ok (.iconst 1, 1) := by decide +kernel
theorem dX6_mayOpen_15 : decode cX6_mayOpen 15 = .ok (.iadd, 1) := by decide +kernel
theorem dX6_mayOpen_16 : decode cX6_mayOpen 16 = .ok (.iaload, 1) := by decide +kernel
theorem dX6_mayOpen_17 : decode cX6_mayOpen 17 = .ok (.aload_n 0, 1) := by decide +kernel
theorem dX6_mayOpen_18 : decode cX6_mayOpen 18 = .ok (.iload_n 1, 1) := by decide +kernel
theorem dX6_mayOpen_19 : decode cX6_mayOpen 19 = .ok (.iconst 1, 1) := by decide +kernel
theorem dX6_mayOpen_20 : decode cX6_mayOpen 20 = .ok (.iadd, 1) := by decide +kernel
theorem dX6_mayOpen_21 : decode cX6_mayOpen 21 = .ok (.invokevirtual 134, 3) := by decide +kernel
theorem dX6_mayOpen_24 : decode cX6_mayOpen 24 = .ok (.if_icmp .ge 7, 3) := by decide +kernel
theorem dX6_mayOpen_27 : decode cX6_mayOpen 27 = .ok (.iconst 1, 1) := by decide +kernel
theorem dX6_mayOpen_28 : decode cX6_mayOpen 28 = .ok (.goto 4, 3) := by decide +kernel
theorem dX6_mayOpen_31 : decode cX6_mayOpen 31 = .ok (.iconst 0, 1) := by decide +kernel
theorem dX6_mayOpen_32 : decode cX6_mayOpen 32 = .ok (.ireturn, 1) := by decide +kernel
set_option maxRecDepth 20000 in
theorem ggX6_gatesNow_X6_mayOpen : GoodIn wsX6_gatesNow wsX6_mayOpen := goodIn_r _ [6, 7, 8, 9, 10, 5, 11, 12, 13, 14, 15, 16, 17, 18, 19, 20, 21, 22, 23, 24, 25, 26, 27, 28, 29, 30, 31, 32, 33, 34, 35, 36, 37, 38, 39, 40, 41, 42, 43] (by decide +kernel) (by decide +kernel)
set_option maxRecDepth 20000 in
theorem gX6_gatesNow_X6_mayOpen : GoodIn wsX6_gatesNow (wsV RX6 141 RX6 yX6_mayOpen wsX6_mayOpen) := goodIn_app (goodIn_of _ (by decide +kernel)) ggX6_gatesNow_X6_mayOpen
theorem dX6_gatesNow_0 : decode cX6_gatesNow 0 = .ok (.iconst 0, 1) := by decide +kernel
theorem dX6_gatesNow_1 : decode cX6_gatesNow 1 = .ok (.istore_n 1, 1) := by decide +kernel
theorem dX6_gatesNow_2 : decode cX6_gatesNow 2 = .ok (.iconst 0, 1) := by decide +kernel
theorem dX6_gatesNow_3 : decode cX6_gatesNow 3 = .ok (.istore_n 2, 1) := by decide +kernel
theorem dX6_gatesNow_4 : decode cX6_gatesNow 4 = .ok (.iload_n 2, 1) := by decide +kernel
theorem dX6_gatesNow_5 : decode cX6_gatesNow 5 = .ok (.aload_n 0, 1) := by decide +kernel
theorem dX6_gatesNow_6 : decode cX6_gatesNow 6 = .ok (.getfield 73, 3) := by decide +kernel
theorem dX6_gatesNow_9 : decode cX6_gatesNow 9 = .ok (.iconst 1, 1) := by decide +kernel
theorem dX6_gatesNow_10 : decode cX6_gatesNow 10 = .ok (.isub, 1) := by decide +kernel
theorem dX6_gatesNow_11 : decode cX6_gatesNow 11 = .ok (.if_icmp .ge 27, 3) := by decide +kernel
theorem dX6_gatesNow_14 : decode cX6_gatesNow 14 = .ok (.iload_n 1, 1) := by decide +kernel
theorem dX6_gatesNow_15 : decode cX6_gatesNow 15 = .ok (.aload_n 0, 1) := by decide +kernel
theorem dX6_gatesNow_16 : decode cX6_gatesNow 16 = .ok (.iload_n 2, 1) := by decide +kernel
theorem dX6_gatesNow_17 : decode cX6_gatesNow 17 = .ok (.invokevirtual 141, 3) := by decide +kernel
theorem dX6_gatesNow_20 : decode cX6_gatesNow 20 = .ok (.ifCond .eq 9, 3) := by decide +kernel
theorem dX6_gatesNow_23 : decode cX6_gatesNow 23 = .ok (.iconst 1, 1) := by decide +kernel
theorem dX6_gatesNow_24 : decode cX6_gatesNow 24 = .ok (.iload_n 2, 1) := by decide +kernel
theorem dX6_gatesNow_25 : decode cX6_gatesNow 25 = .ok (.ishl, 1) := by decide +kernel
theorem dX6_gatesNow_26 : decode cX6_gatesNow 26 = .ok (.goto 4, 3) := by decide +kernel
theorem dX6_gatesNow_29 : decode cX6_gatesNow 29 = .ok (.iconst 0, 1) := by decide +kernel
theorem dX6_gatesNow_30 : decode cX6_gatesNow 30 = .ok (.ior, 1) := by decide +kernel
theorem dX6_gatesNow_31 : decode cX6_gatesNow 31 = .ok (.istore_n 1, 1) := by decide +kernel
theorem dX6_gatesNow_32 : decode cX6_gatesNow 32 = .ok (.iinc 2 1, 3) := by decide +kernel
theorem dX6_gatesNow_35 : decode cX6_gatesNow 35 = .ok (.goto (-31), 3) := by decide +kernel
theorem dX6_gatesNow_38 : decode cX6_gatesNow 38 = .ok (.iload_n 1, 1) := by decide +kernel
theorem dX6_gatesNow_39 : decode cX6_gatesNow 39 = .ok (.ireturn, 1) := by decide +kernel
theorem dX6_goNight_0 : decode cX6_goNight 0 = .ok (.aload_n 0, 1) := by decide +kernel
theorem dX6_goNight_1 : decode cX6_goNight 1 = .ok (.getfield 28, 3) := by decide +kernel
theorem dX6_goNight_4 : decode cX6_goNight 4 = .ok (.iconst 0, 1) := by decide +kernel
theorem dX6_goNight_5 : decode cX6_goNight 5 = .ok (.iaload, 1) := by decide +kernel
theorem dX6_goNight_6 : decode cX6_goNight 6 = .ok (.aload_n 0, 1) := by decide +kernel
theorem dX6_goNight_7 : decode cX6_goNight 7 = .ok (.getfield 125, 3) := by decide +kernel
theorem dX6_goNight_10 : decode cX6_goNight 10 = .ok (.iadd, 1) := by decide +kernel
theorem dX6_goNight_11 : decode cX6_goNight 11 = .ok (.istore_n 1, 1) := by decide +kernel
theorem dX6_goNight_12 : decode cX6_goNight 12 = .ok (.aload_n 0, 1) := by decide +kernel
theorem dX6_goNight_13 : decode cX6_goNight 13 = .ok (.getfield 28, 3) := by decide +kernel
theorem dX6_goNight_16 : decode cX6_goNight 16 = .ok (.iconst 0, 1) := by decide +kernel
theorem dX6_goNight_17 : decode cX6_goNight 17 = .ok (.iload_n 1, 1) := by decide +kernel
theorem dX6_goNight_18 : decode cX6_goNight 18 = .ok (.bipush 9, 2) := by decide +kernel
theorem dX6_goNight_20 : decode cX6_goNight 20 = .ok (.if_icmp .le 8, 3) := by decide +kernel
theorem dX6_goNight_23 : decode cX6_goNight 23 = .ok (.bipush 9, 2) := by decide +kernel
theorem dX6_goNight_25 : decode cX6_goNight 25 = .ok (.goto 4, 3) := by decide +kernel
theorem dX6_goNight_28 : decode cX6_goNight 28 = .ok (.iload_n 1, 1) := by decide +kernel
theorem dX6_goNight_29 : decode cX6_goNight 29 = .ok (.iastore, 1) := by decide +kernel
theorem dX6_goNight_30 : decode cX6_goNight 30 = .ok (.aload_n 0, 1) := by decide +kernel
theorem dX6_goNight_31 : decode cX6_goNight 31 = .ok (.getfield 28, 3) := by decide +kernel
theorem dX6_goNight_34 : decode cX6_goNight 34 = .ok (.aload_n 0, 1) := by decide +kernel
theorem dX6_goNight_35 : decode cX6_goNight 35 = .ok (.getfield 73, 3) := by decide +kernel
theorem dX6_goNight_38 : decode cX6_goNight 38 = .ok (.iconst 1, 1) := by decide +kernel
theorem dX6_goNight_39 : decode cX6_goNight 39 = .ok (.isub, 1) := by decide +kernel
theorem dX6_goNight_40 : decode cX6_goNight 40 = .ok (.dup2, 1) := by decide +kernel
theorem dX6_goNight_41 : decode cX6_goNight 41 = .ok (.iaload, 1) := by decide +kernel
theorem dX6_goNight_42 : decode cX6_goNight 42 = .ok (.aload_n 0, 1) := by decide +kernel
theorem dX6_goNight_43 : decode cX6_goNight 43 = .ok (.getfield 28, 3) := by decide +kernel
theorem dX6_goNight_46 : decode cX6_goNight 46 = .ok (.aload_n 0, 1) := by decide +kernel
theorem dX6_goNight_47 : decode cX6_goNight 47 = .ok (.getfield 73, 3) := by decide +kernel
theorem dX6_goNight_50 : decode cX6_goNight 50 = .ok (.iconst 1, 1) := by decide +kernel
theorem dX6_goNight_51 : decode cX6_goNight 51 = .ok (.isub, 1) := by decide +kernel
theorem dX6_goNight_52 : decode cX6_goNight 52 = .ok (.iaload, 1) := by decide +kernel
theorem dX6_goNight_53 : decode cX6_goNight 53 = .ok (.ifCond .le 7, 3) := by decide +kernel
theorem dX6_goNight_56 : decode cX6_goNight 56 = .ok (.iconst 1, 1) := by decide +kernel
theorem dX6_goNight_57 : decode cX6_goNight 57 = .ok (.goto 4, 3) := by decide +kernel
theorem dX6_goNight_60 : decode cX6_goNight 60 = .ok (.iconst 0, 1) := by decide +kernel
theorem dX6_goNight_61 : decode cX6_goNight 61 = .ok (.isub, 1) := by decide +kernel
theorem dX6_goNight_62 : decode cX6_goNight 62 = .ok (.iastore, 1) := by decide +kernel
theorem dX6_goNight_63 : decode cX6_goNight 63 = .ok (.return_, 1) := by decide +kernel
set_option maxRecDepth 20000 in
theorem ggX6_does_X6_goNight : GoodIn wsX6_does wsX6_goNight := goodIn_r _ [7, 2, 8, 1, 19, 20, 21, 22, 23, 24, 25, 26, 27, 28, 29, 30, 31, 32, 33, 34, 35, 36, 37, 38, 39, 40, 41, 42, 43, 44, 45, 46, 47, 48] (by decide +kernel) (by decide +kernel)
set_option maxRecDepth 20000 in
theorem gX6_does_X6_goNight : GoodIn wsX6_does (wsV RX6 144 RX6 yX6_goNight wsX6_goNight) := goodIn_app (goodIn_of _ (by decide +kernel)) ggX6_does_X6_goNight
set_option maxRecDepth 20000 in
theorem ggX6_does_X6_mayOpen : GoodIn wsX6_does wsX6_mayOpen := goodIn_r _ [12, 2, 13, 14, 15, 6, 16, 17, 18, 19, 20, 21, 22, 23, 24, 25, 26, 27, 28, 29, 30, 31, 32, 33, 34, 35, 36, 37, 38, 39, 40, 41, 42, 43, 44, 45, 46, 47, 48] (by decide +kernel) (by decide +kernel)
set_option maxRecDepth 20000 in
theorem gX6_does_X6_mayOpen : GoodIn wsX6_does (wsV RX6 141 RX6 yX6_mayOpen wsX6_mayOpen) := goodIn_app (goodIn_of _ (by decide +kernel)) ggX6_does_X6_mayOpen
theorem dX6_does_0 : decode cX6_does 0 = .ok (.iload_n 1, 1) := by decide +kernel
theorem dX6_does_1 : decode cX6_does 1 = .ok (.aload_n 0, 1) := by decide +kernel
theorem dX6_does_2 : decode cX6_does 2 = .ok (.getfield 73, 3) := by decide +kernel
theorem dX6_does_5 : decode cX6_does 5 = .ok (.iconst 1, 1) := by decide +kernel
theorem dX6_does_6 : decode cX6_does 6 = .ok (.isub, 1) := by decide +kernel
theorem dX6_does_7 : decode cX6_does 7 = .ok (.if_icmp .ne 9, 3) := by decide +kernel
theorem dX6_does_10 : decode cX6_does 10 = .ok (.aload_n 0, 1) := by decide +kernel
theorem dX6_does_11 : decode cX6_does 11 = .ok (.invokevirtual 144, 3) := by decide +kernel
theorem dX6_does_14 : decode cX6_does 14 = .ok (.iconst 1, 1) := by decide +kernel
theorem dX6_does_15 : decode cX6_does 15 = .ok (.ireturn, 1) := by decide +kernel
theorem dX6_does_16 : decode cX6_does 16 = .ok (.aload_n 0, 1) := by decide +kernel
theorem dX6_does_17 : decode cX6_does 17 = .ok (.iload_n 1, 1) := by decide +kernel
theorem dX6_does_18 : decode cX6_does 18 = .ok (.invokevirtual 141, 3) := by decide +kernel
theorem dX6_does_21 : decode cX6_does 21 = .ok (.ifCond .ne 5, 3) := by decide +kernel
theorem dX6_does_24 : decode cX6_does 24 = .ok (.iconst 0, 1) := by decide +kernel
theorem dX6_does_25 : decode cX6_does 25 = .ok (.ireturn, 1) := by decide +kernel
theorem dX6_does_26 : decode cX6_does 26 = .ok (.aload_n 0, 1) := by decide +kernel
theorem dX6_does_27 : decode cX6_does 27 = .ok (.getfield 28, 3) := by decide +kernel
theorem dX6_does_30 : decode cX6_does 30 = .ok (.iload_n 1, 1) := by decide +kernel
theorem dX6_does_31 : decode cX6_does 31 = .ok (.dup2, 1) := by decide +kernel
theorem dX6_does_32 : decode cX6_does 32 = .ok (.iaload, 1) := by decide +kernel
theorem dX6_does_33 : decode cX6_does 33 = .ok (.iconst 1, 1) := by decide +kernel
theorem dX6_does_34 : decode cX6_does 34 = .ok (.isub, 1) := by decide +kernel
theorem dX6_does_35 : decode cX6_does 35 = .ok (.iastore, 1) := by decide +kernel
theorem dX6_does_36 : decode cX6_does 36 = .ok (.aload_n 0, 1) := by decide +kernel
theorem dX6_does_37 : decode cX6_does 37 = .ok (.getfield 28, 3) := by decide +kernel
theorem dX6_does_40 : decode cX6_does 40 = .ok (.iload_n 1, 1) := by decide +kernel
theorem dX6_does_41 : decode cX6_does 41 = .ok (.iconst 1, 1) := by decide +kernel
theorem dX6_does_42 : decode cX6_does 42 = .ok (.iadd, 1) := by decide +kernel
theorem dX6_does_43 : decode cX6_does 43 = .ok (.dup2, 1) := by decide +kernel
theorem dX6_does_44 : decode cX6_does 44 = .ok (.iaload, 1) := by decide +kernel
theorem dX6_does_45 : decode cX6_does 45 = .ok (.iconst 1, 1) := by decide +kernel
theorem dX6_does_46 : decode cX6_does 46 = .ok (.iadd, 1) := by decide +kernel
theorem dX6_does_47 : decode cX6_does 47 = .ok (.iastore, 1) := by decide +kernel
theorem dX6_does_48 : decode cX6_does 48 = .ok (.iconst 1, 1) := by decide +kernel
theorem dX6_does_49 : decode cX6_does 49 = .ok (.ireturn, 1) := by decide +kernel
set_option maxRecDepth 20000 in
theorem ggX6_gates_X6_begin : GoodIn wsX6_gates wsX6_begin := goodIn_r _ [6, 1, 7, 8, 23, 24, 25, 26, 27, 28, 29, 30, 31, 32, 33, 34, 35, 36, 37, 38, 39, 40, 41, 42, 43, 44, 45, 46, 47, 48, 49, 50, 51, 52] (by decide +kernel) (by decide +kernel)
set_option maxRecDepth 20000 in
theorem gX6_gates_X6_begin : GoodIn wsX6_gates (wsV RX6 147 RX6 yX6_begin wsX6_begin) := goodIn_app (goodIn_of _ (by decide +kernel)) ggX6_gates_X6_begin
set_option maxRecDepth 20000 in
theorem ggX6_gates_X6_gatesNow : GoodIn wsX6_gates wsX6_gatesNow := goodIn_r _ [12, 1, 13, 14, 15, 5, 16, 7, 17, 18, 19, 20, 21, 22, 23, 24, 25, 26, 27, 28, 29, 30, 31, 32, 33, 34, 35, 36, 37, 38, 39, 40, 41, 42, 43, 44, 45, 46, 47, 48, 49, 50, 51, 52] (by decide +kernel) (by decide +kernel)
set_option maxRecDepth 20000 in
theorem gX6_gates_X6_gatesNow : GoodIn wsX6_gates (wsV RX6 150 RX6 yX6_gatesNow wsX6_gatesNow) := goodIn_app (goodIn_of _ (by decide +kernel)) ggX6_gates_X6_gatesNow
theorem dX6_gates_0 : decode cX6_gates 0 = .ok (.aload_n 0, 1) := by decide +kernel
theorem dX6_gates_1 : decode cX6_gates 1 = .ok (.getfield 73, 3) := by decide +kernel
theorem dX6_gates_4 : decode cX6_gates 4 = .ok (.ifCond .ne 6, 3) := by decide +kernel
theorem dX6_gates_7 : decode cX6_gates 7 = .ok (.bipush (-3), 2) := by decide +kernel
theorem dX6_gates_9 : decode cX6_gates 9 = .ok (.ireturn, 1) := by decide +kernel
theorem dX6_gates_10 : decode cX6_gates 10 = .ok (.aload_n 0, 1) := by decide +kernel
theorem dX6_gates_11 : decode cX6_gates 11 = .ok (.invokevirtual 147, 3) := by decide +kernel
theorem dX6_gates_14 : decode cX6_gates 14 = .ok (.aload_n 0, 1) := by decide +kernel
theorem dX6_gates_15 : decode cX6_gates 15 = .ok (.invokevirtual 150, 3) := by decide +kernel
theorem dX6_gates_18 : decode cX6_gates 18 = .ok (.ireturn, 1) := by decide +kernel
set_option maxRecDepth 20000 in
theorem ggX6_open_X6_in : GoodIn wsX6_open wsX6_in := goodIn_r _ [7] (by decide +kernel) (by decide +kernel)
set_option maxRecDepth 20000 in
theorem gX6_open_X6_in : GoodIn wsX6_open (va_wsS RX6 76 yX6_in wsX6_in) := goodIn_app (goodIn_of _ (by decide +kernel)) ggX6_open_X6_in
set_option maxRecDepth 20000 in
theorem ggX6_open_X6_begin : GoodIn wsX6_open wsX6_begin := goodIn_r _ [11, 1, 12, 3, 36, 37, 38, 39, 40, 41, 42, 43, 44, 45, 46, 47, 48, 49, 50, 51, 52, 53, 54, 55, 56, 57, 58, 59, 60, 61, 62, 63, 64, 65] (by decide +kernel) (by decide +kernel)
set_option maxRecDepth 20000 in
theorem gX6_open_X6_begin : GoodIn wsX6_open (wsV RX6 147 RX6 yX6_begin wsX6_begin) := goodIn_app (goodIn_of _ (by decide +kernel)) ggX6_open_X6_begin
set_option maxRecDepth 20000 in
theorem ggX6_open_X6_does : GoodIn wsX6_open wsX6_does := goodIn_r _ [16, 1, 12, 17, 18, 19, 6, 20, 21, 22, 23, 24, 25, 26, 27, 28, 29, 30, 31, 36, 37, 38, 39, 40, 41, 42, 43, 44, 45, 46, 47, 48, 49, 50, 51, 52, 53, 54, 55, 56, 57, 58, 59, 60, 61, 62, 63, 64, 65] (by decide +kernel) (by decide +kernel)
set_option maxRecDepth 20000 in
theorem gX6_open_X6_does : GoodIn wsX6_open (wsV RX6 154 RX6 yX6_does wsX6_does) := goodIn_app (goodIn_of _ (by decide +kernel)) ggX6_open_X6_does
set_option maxRecDepth 20000 in
theorem ggX6_open_X6_end : GoodIn wsX6_open wsX6_end := goodIn_r _ [35, 1, 3, 12, 36, 37, 38, 39, 40, 41, 42, 43, 44, 45, 46, 47, 48, 49, 50, 51, 52, 53, 54, 55, 56, 57, 58, 59, 60, 61, 62, 63, 64, 65] (by decide +kernel) (by decide +kernel)
set_option maxRecDepth 20000 in
theorem gX6_open_X6_end : GoodIn wsX6_open (wsV RX6 157 RX6 yX6_end wsX6_end) := goodIn_app (goodIn_of _ (by decide +kernel)) ggX6_open_X6_end
theorem dX6_open_0 : decode cX6_open 0 = .ok (.iload_n 1, 1) := by decide +kernel
theorem dX6_open_1 : decode cX6_open 1 = .ok (.i2l, 1) := by decide +kernel
theorem dX6_open_2 : decode cX6_open 2 = .ok (.lconst 0, 1) := by decide +kernel
theorem dX6_open_3 : decode cX6_open 3 = .ok (.aload_n 0, 1) := by decide +kernel
theorem dX6_open_4 : decode cX6_open 4 = .ok (.getfield 73, 3) := by decide +kernel
theorem dX6_open_7 : decode cX6_open 7 = .ok (.i2l, 1) := by decide +kernel
theorem dX6_open_8 : decode cX6_open 8 = .ok (.ldc2_w 116, 3) := by decide +kernel
theorem dX6_open_11 : decode cX6_open 11 = .ok (.lsub, 1) := by decide +kernel
theorem dX6_open_12 : decode cX6_open 12 = .ok (.invokestatic 76, 3) := by decide +kernel
theorem dX6_open_15 : decode cX6_open 15 = .ok (.ifCond .ne 5, 3) := by decide +kernel
theorem dX6_open_18 : decode cX6_open 18 = .ok (.iconst (-1), 1) := by decide +kernel
theorem dX6_open_19 : decode cX6_open 19 = .ok (.ireturn, 1) := by decide +kernel
theorem dX6_open_20 : decode cX6_open 20 = .ok (.aload_n 0, 1) := by decide +kernel
theorem dX6_open_21 : decode cX6_open 21 = .ok (.invokevirtual 147, 3) := by decide +kernel
theorem dX6_open_24 : decode cX6_open 24 = .ok (.aload_n 0, 1) := by decide +kernel
theorem dX6_open_25 : decode cX6_open 25 = .ok (.iload_n 1, 1) := by decide +kernel
theorem dX6_open_26 : decode cX6_open 26 = .ok (.invokevirtual 154, 3) := by decide +kernel
theorem dX6_open_29 : decode cX6_open 29 = .ok (.ifCond .ne 6, 3) := by decide +kernel
theorem dX6_open_32 : decode cX6_open 32 = .ok (.bipush (-3), 2) := by decide +kernel
theorem dX6_open_34 : decode cX6_open 34 = .ok (.ireturn, 1) := by decide +kernel
theorem dX6_open_35 : decode cX6_open 35 = .ok (.aload_n 0, 1) := by decide +kernel
theorem dX6_open_36 : decode cX6_open 36 = .ok (.invokevirtual 157, 3) := by decide +kernel
theorem dX6_open_39 : decode cX6_open 39 = .ok (.aload_n 0, 1) := by decide +kernel
theorem dX6_open_40 : decode cX6_open 40 = .ok (.getfield 13, 3) := by decide +kernel
theorem dX6_open_43 : decode cX6_open 43 = .ok (.iload_n 1, 1) := by decide +kernel
theorem dX6_open_44 : decode cX6_open 44 = .ok (.iconst 1, 1) := by decide +kernel
theorem dX6_open_45 : decode cX6_open 45 = .ok (.iadd, 1) := by decide +kernel
theorem dX6_open_46 : decode cX6_open 46 = .ok (.iaload, 1) := by decide +kernel
theorem dX6_open_47 : decode cX6_open 47 = .ok (.ireturn, 1) := by decide +kernel
set_option maxRecDepth 20000 in
theorem ggX6_nights_X6_in : GoodIn wsX6_nights wsX6_in := goodIn_r _ [7] (by decide +kernel) (by decide +kernel)
set_option maxRecDepth 20000 in
theorem gX6_nights_X6_in : GoodIn wsX6_nights (va_wsS RX6 76 yX6_in wsX6_in) := goodIn_app (goodIn_of _ (by decide +kernel)) ggX6_nights_X6_in
set_option maxRecDepth 20000 in
theorem ggX6_nights_X6_begin : GoodIn wsX6_nights wsX6_begin := goodIn_r _ [11, 2, 12, 3, 22, 23, 24, 25, 26, 27, 28, 29, 30, 31, 32, 33, 34, 35, 36, 37, 38, 39, 40, 41, 42, 43, 44, 45, 46, 47, 48, 49, 50, 51] (by decide +kernel) (by decide +kernel)
set_option maxRecDepth 20000 in
theorem gX6_nights_X6_begin : GoodIn wsX6_nights (wsV RX6 147 RX6 yX6_begin wsX6_begin) := goodIn_app (goodIn_of _ (by decide +kernel)) ggX6_nights_X6_begin
set_option maxRecDepth 20000 in
theorem ggX6_nights_X6_goNight : GoodIn wsX6_nights wsX6_goNight := goodIn_r _ [16, 12, 17, 2, 22, 23, 24, 25, 26, 27, 28, 29, 30, 31, 32, 33, 34, 35, 36, 37, 38, 39, 40, 41, 42, 43, 44, 45, 46, 47, 48, 49, 50, 51] (by decide +kernel) (by decide +kernel)
set_option maxRecDepth 20000 in
theorem gX6_nights_X6_goNight : GoodIn wsX6_nights (wsV RX6 144 RX6 yX6_goNight wsX6_goNight) := goodIn_app (goodIn_of _ (by decide +kernel)) ggX6_nights_X6_goNight
set_option maxRecDepth 20000 in
theorem ggX6_nights_X6_end : GoodIn wsX6_nights wsX6_end := goodIn_r _ [21, 2, 3, 12, 22, 23, 24, 25, 26, 27, 28, 29, 30, 31, 32, 33, 34, 35, 36, 37, 38, 39, 40, 41, 42, 43, 44, 45, 46, 47, 48, 49, 50, 51] (by decide +kernel) (by decide +kernel)
set_option maxRecDepth 20000 in
theorem gX6_nights_X6_end : GoodIn wsX6_nights (wsV RX6 157 RX6 yX6_end wsX6_end) := goodIn_app (goodIn_of _ (by decide +kernel)) ggX6_nights_X6_end
theorem dX6_nights_0 : decode cX6_nights 0 = .ok (.iload_n 1, 1) := by decide +kernel
theorem dX6_nights_1 : decode cX6_nights 1 = .ok (.i2l, 1) := by decide +kernel
theorem dX6_nights_2 : decode cX6_nights 2 = .ok (.lconst 0, 1) := by decide +kernel
theorem dX6_nights_3 : decode cX6_nights 3 = .ok (.ldc2_w 160, 3) := by decide +kernel
theorem dX6_nights_6 : decode cX6_nights 6 = .ok (.invokestatic 76, 3) := by decide +kernel
theorem dX6_nights_9 : decode cX6_nights 9 = .ok (.ifCond .ne 6, 3) := by decide +kernel
theorem dX6_nights_12 : decode cX6_nights 12 = .ok (.bipush (-2), 2) := by decide +kernel
theorem dX6_nights_14 : decode cX6_nights 14 = .ok (.ireturn, 1) := by decide +kernel
theorem dX6_nights_15 : decode cX6_nights 15 = .ok (.aload_n 0, 1) := by decide +kernel
theorem dX6_nights_16 : decode cX6_nights 16 = .ok (.getfield 73, 3) := by decide +kernel
theorem dX6_nights_19 : decode cX6_nights 19 = .ok (.ifCond .ne 6, 3) := by decide +kernel
theorem dX6_nights_22 : decode cX6_nights 22 = .ok (.bipush (-3), 2) := by decide +kernel
theorem dX6_nights_24 : decode cX6_nights 24 = .ok (.ireturn, 1) := by decide +kernel
theorem dX6_nights_25 : decode cX6_nights 25 = .ok (.aload_n 0, 1) := by decide +kernel
theorem dX6_nights_26 : decode cX6_nights 26 = .ok (.invokevirtual 147, 3) := by decide +kernel
theorem dX6_nights_29 : decode cX6_nights 29 = .ok (.iconst 0, 1) := by decide +kernel
theorem dX6_nights_30 : decode cX6_nights 30 = .ok (.istore_n 2, 1) := by decide +kernel
theorem dX6_nights_31 : decode cX6_nights 31 = .ok (.iload_n 2, 1) := by decide +kernel
theorem dX6_nights_32 : decode cX6_nights 32 = .ok (.iload_n 1, 1) := by decide +kernel
theorem dX6_nights_33 : decode cX6_nights 33 = .ok (.if_icmp .ge 13, 3) := by decide +kernel
theorem dX6_nights_36 : decode cX6_nights 36 = .ok (.aload_n 0, 1) := by decide +kernel
theorem dX6_nights_37 : decode cX6_nights 37 = .ok (.invokevirtual 144, 3) := by decide +kernel
theorem dX6_nights_40 : decode cX6_nights 40 = .ok (.iinc 2 1, 3) := by decide +kernel
theorem dX6_nights_43 : decode cX6_nights 43 = .ok (.goto (-12), 3) := by decide +kernel
theorem dX6_nights_46 : decode cX6_nights 46 = .ok (.aload_n 0, 1) := by decide +kernel
theorem dX6_nights_47 : decode cX6_nights 47 = .ok (.invokevirtual 157, 3) := by decide +kernel
theorem dX6_nights_50 : decode cX6_nights 50 = .ok (.aload_n 0, 1) := by decide +kernel
theorem dX6_nights_51 : decode cX6_nights 51 = .ok (.getfield 13, 3) := by decide +kernel
theorem dX6_nights_54 : decode cX6_nights 54 = .ok (.iconst 0, 1) := by decide +kernel
theorem dX6_nights_55 : decode cX6_nights 55 = .ok (.iaload, 1) := by decide +kernel
theorem dX6_nights_56 : decode cX6_nights 56 = .ok (.ireturn, 1) := by decide +kernel
set_option maxRecDepth 20000 in
theorem ggX6_goActs_X6_begin : GoodIn wsX6_goActs wsX6_begin := goodIn_r _ [9, 4, 10, 11, 31, 32, 33, 34, 35, 36, 37, 38, 39, 40, 41, 42, 43, 44, 45, 46, 47, 48, 49, 50, 51, 52, 53, 54, 55, 56, 57, 58, 59, 60] (by decide +kernel) (by decide +kernel)
set_option maxRecDepth 20000 in
theorem gX6_goActs_X6_begin : GoodIn wsX6_goActs (wsV RX6 147 RX6 yX6_begin wsX6_begin) := goodIn_app (goodIn_of _ (by decide +kernel)) ggX6_goActs_X6_begin
set_option maxRecDepth 20000 in
theorem ggX6_goActs_X6_does : GoodIn wsX6_goActs wsX6_does := goodIn_r _ [15, 4, 10, 16, 17, 18, 8, 19, 20, 21, 22, 23, 24, 25, 26, 27, 28, 29, 30, 31, 32, 33, 34, 35, 36, 37, 38, 39, 40, 41, 42, 43, 44, 45, 46, 47, 48, 49, 50, 51, 52, 53, 54, 55, 56, 57, 58, 59, 60] (by decide +kernel) (by decide +kernel)
set_option maxRecDepth 20000 in
theorem gX6_goActs_X6_does : GoodIn wsX6_goActs (wsV RX6 154 RX6 yX6_does wsX6_does) := goodIn_app (goodIn_of _ (by decide +kernel)) ggX6_goActs_X6_does
theorem dX6_goActs_0 : decode cX6_goActs 0 = .ok (.aload_n 0, 1) := by decide +kernel
theorem dX6_goActs_1 : decode cX6_goActs 1 = .ok (.bipush (-9), 2) := by decide +kernel
theorem dX6_goActs_3 : decode cX6_goActs 3 = .ok (.putfield 162, 3) := by decide +kernel
theorem dX6_goActs_6 : decode cX6_goActs 6 = .ok (.aload_n 0, 1) := by decide +kernel
theorem dX6_goActs_7 : decode cX6_goActs 7 = .ok (.iconst 0, 1) := by decide +kernel
theorem dX6_goActs_8 : decode cX6_goActs 8 = .ok (.putfield 165, 3) := by decide +kernel
theorem dX6_goActs_11 : decode cX6_goActs 11 = .ok (.aload_n 0, 1) := by decide +kernel
theorem dX6_goActs_12 : decode cX6_goActs 12 = .ok (.invokevirtual 147, 3) := by decide +kernel
theorem dX6_goActs_15 : decode cX6_goActs 15 = .ok (.iconst 0, 1) := by decide +kernel
theorem dX6_goActs_16 : decode cX6_goActs 16 = .ok (.istore_n 3, 1) := by decide +kernel
theorem dX6_goActs_17 : decode cX6_goActs 17 = .ok (.iload_n 3, 1) := by decide +kernel
theorem dX6_goActs_18 : decode cX6_goActs 18 = .ok (.iload_n 2, 1) := by decide +kernel
theorem dX6_goActs_19 : decode cX6_goActs 19 = .ok (.if_icmp .ge 68, 3) := by decide +kernel
theorem dX6_goActs_22 : decode cX6_goActs 22 = .ok (.aload_n 0, 1) := by decide +kernel
theorem dX6_goActs_23 : decode cX6_goActs 23 = .ok (.getfield 162, 3) := by decide +kernel
theorem dX6_goActs_26 : decode cX6_goActs 26 = .ok (.ifCond .ge 61, 3) := by decide +kernel
theorem dX6_goActs_29 : decode cX6_goActs 29 = .ok (.aload_n 0, 1) := by decide +kernel
theorem dX6_goActs_30 : decode cX6_goActs 30 = .ok (.getfield 57, 3) := by decide +kernel
theorem dX6_goActs_33 : decode cX6_goActs 33 = .ok (.iload_n 1, 1) := by decide +kernel
theorem dX6_goActs_34 : decode cX6_goActs 34 = .ok (.iload_n 3, 1) := by decide +kernel
theorem dX6_goActs_35 : decode cX6_goActs 35 = .ok (.iadd, 1) := by decide +kernel
theorem dX6_goActs_36 : decode cX6_goActs 36 = .ok (.iaload, 1) := by decide +kernel
theorem dX6_goActs_37 : decode cX6_goActs 37 = .ok (.istore 4, 2) := by decide +kernel
theorem dX6_goActs_39 : decode cX6_goActs 39 = .ok (.aload_n 0, 1) := by decide +kernel
theorem dX6_goActs_40 : decode cX6_goActs 40 = .ok (.iload 4, 2) := by decide +kernel
theorem dX6_goActs_42 : decode cX6_goActs 42 = .ok (.invokevirtual 154, 3) := by decide +kernel
theorem dX6_goActs_45 : decode cX6_goActs 45 = .ok (.ifCond .eq 31, 3) := by decide +kernel
theorem dX6_goActs_48 : decode cX6_goActs 48 = .ok (.aload_n 0, 1) := by decide +kernel
theorem dX6_goActs_49 : decode cX6_goActs 49 = .ok (.dup, 1) := by decide +kernel
theorem dX6_goActs_50 : decode cX6_goActs 50 = .ok (.getfield 165, 3) := by decide +kernel
theorem dX6_goActs_53 : decode cX6_goActs 53 = .ok (.iload 4, 2) := by decide +kernel
theorem dX6_goActs_55 : decode cX6_goActs 55 = .ok (.aload_n 0, 1) := by decide +kernel
theorem dX6_goActs_56 : decode cX6_goActs 56 = .ok (.getfield 73, 3) := by decide +kernel
theorem dX6_goActs_59 : decode cX6_goActs 59 = .ok (.iconst 1, 1) := by decide +kernel
theorem dX6_goActs_60 : decode cX6_goActs 60 = .ok (.isub, 1) := by decide +kernel
theorem dX6_goActs_61 : decode cX6_goActs 61 = .ok (.if_icmp .ge 7, 3) := by decide +kernel
theorem dX6_goActs_64 : decode cX6_goActs 64 = .ok (.iconst 1, 1) := by decide +kernel
theorem dX6_goActs_65 : decode cX6_goActs 65 = .ok (.goto 4, 3) := by decide +kernel
theorem dX6_goActs_68 : decode cX6_goActs 68 = .ok (.iconst 0, 1) := by decide +kernel
theorem dX6_goActs_69 : decode cX6_goActs 69 = .ok (.iadd, 1) := by decide +kernel
theorem dX6_goActs_70 : decode cX6_goActs 70 = .ok (.putfield 165, 3) := by decide +kernel
theorem dX6_goActs_73 : decode cX6_goActs 73 = .ok (.goto 8, 3) := by decide +kernel
theorem dX6_goActs_76 : decode cX6_goActs 76 = .ok (.aload_n 0, 1) := by decide +kernel
theorem dX6_goActs_77 : decode cX6_goActs 77 = .ok (.iload_n 3, 1) := by decide +kernel
theorem dX6_goActs_78 : decode cX6_goActs 78 = .ok (.putfield 162, 3) := by decide +kernel
theorem dX6_goActs_81 : decode cX6_goActs 81 = .ok (.iinc 3 1, 3) := by decide +kernel
theorem dX6_goActs_84 : decode cX6_goActs 84 = .ok (.goto (-67), 3) := by decide +kernel
theorem dX6_goActs_87 : decode cX6_goActs 87 = .ok (.return_, 1) := by decide +kernel
theorem dX6_levelsNow_0 : decode cX6_levelsNow 0 = .ok (.iconst 0, 1) := by decide +kernel
theorem dX6_levelsNow_1 : decode cX6_levelsNow 1 = .ok (.istore_n 1, 1) := by decide +kernel
theorem dX6_levelsNow_2 : decode cX6_levelsNow 2 = .ok (.iconst 0, 1) := by decide +kernel
theorem dX6_levelsNow_3 : decode cX6_levelsNow 3 = .ok (.istore_n 2, 1) := by decide +kernel
theorem dX6_levelsNow_4 : decode cX6_levelsNow 4 = .ok (.iload_n 2, 1) := by decide +kernel
theorem dX6_levelsNow_5 : decode cX6_levelsNow 5 = .ok (.aload_n 0, 1) := by decide +kernel
theorem dX6_levelsNow_6 : decode cX6_levelsNow 6 = .ok (.getfield 73, 3) := by decide +kernel
theorem dX6_levelsNow_9 : decode cX6_levelsNow 9 = .ok (.if_icmp .ge 18, 3) := by decide +kernel
theorem dX6_levelsNow_12 : decode cX6_levelsNow 12 = .ok (.iload_n 1, 1) := by decide +kernel
theorem dX6_levelsNow_13 : decode cX6_levelsNow 13 = .ok (.aload_n 0, 1) := by decide +kernel
theorem dX6_levelsNow_14 : decode cX6_levelsNow 14 = .ok (.getfield 28, 3) := by decide +kernel
theorem dX6_levelsNow_17 : decode cX6_levelsNow 17 = .ok (.iload_n 2, 1) := by decide +kernel
theorem dX6_levelsNow_18 : decode cX6_levelsNow 18 = .ok (.iaload, 1) := by decide +kernel
theorem dX6_levelsNow_19 : decode cX6_levelsNow 19 = .ok (.iadd, 1) := by decide +kernel
theorem dX6_levelsNow_20 : decode cX6_levelsNow 20 = .ok (.istore_n 1, 1) := by decide +kernel
theorem dX6_levelsNow_21 : decode cX6_levelsNow 21 = .ok (.iinc 2 1, 3) := by decide +kernel
theorem dX6_levelsNow_24 : decode cX6_levelsNow 24 = .ok (.goto (-20), 3) := by decide +kernel
theorem dX6_levelsNow_27 : decode cX6_levelsNow 27 = .ok (.iload_n 1, 1) := by decide +kernel
theorem dX6_levelsNow_28 : decode cX6_levelsNow 28 = .ok (.ireturn, 1) := by decide +kernel
set_option maxRecDepth 20000 in
theorem ggX6_actsBy_X6_noReach : GoodIn wsX6_actsBy wsX6_noReach := goodIn_r _ [8, 9, 10, 11, 7, 12, 31, 32, 33, 34, 35, 36, 37, 38, 39, 40, 41, 42, 43, 44, 45, 46, 47, 48, 49, 50, 51, 52, 53, 54, 55, 56, 57, 58, 59, 60] (by decide +kernel) (by decide +kernel)
set_option maxRecDepth 20000 in
theorem gX6_actsBy_X6_noReach : GoodIn wsX6_actsBy (wsV RX6 131 RX6 yX6_noReach wsX6_noReach) := goodIn_app (goodIn_of _ (by decide +kernel)) ggX6_actsBy_X6_noReach
set_option maxRecDepth 20000 in
theorem ggX6_actsBy_X6_levelsNow : GoodIn wsX6_actsBy wsX6_levelsNow := goodIn_r _ [16, 9, 2, 31, 32, 33, 34, 35, 36, 37, 38, 39, 40, 41, 42, 43, 44, 45, 46, 47, 48, 49, 50, 51, 52, 53, 54, 55, 56, 57, 58, 59, 60] (by decide +kernel) (by decide +kernel)
set_option maxRecDepth 20000 in
theorem gX6_actsBy_X6_levelsNow : GoodIn wsX6_actsBy (wsV RX6 168 RX6 yX6_levelsNow wsX6_levelsNow) := goodIn_app (goodIn_of _ (by decide +kernel)) ggX6_actsBy_X6_levelsNow
set_option maxRecDepth 20000 in
theorem ggX6_actsBy_X6_gatesNow : GoodIn wsX6_actsBy wsX6_gatesNow := goodIn_r _ [20, 9, 21, 22, 23, 7, 24, 2, 25, 26, 27, 28, 29, 30, 31, 32, 33, 34, 35, 36, 37, 38, 39, 40, 41, 42, 43, 44, 45, 46, 47, 48, 49, 50, 51, 52, 53, 54, 55, 56, 57, 58, 59, 60] (by decide +kernel) (by decide +kernel)
set_option maxRecDepth 20000 in
theorem gX6_actsBy_X6_gatesNow : GoodIn wsX6_actsBy (wsV RX6 150 RX6 yX6_gatesNow wsX6_gatesNow) := goodIn_app (goodIn_of _ (by decide +kernel)) ggX6_actsBy_X6_gatesNow
theorem dX6_actsBy_0 : decode cX6_actsBy 0 = .ok (.iload_n 1, 1) := by decide +kernel
theorem dX6_actsBy_1 : decode cX6_actsBy 1 = .ok (.iconst 1, 1) := by decide +kernel
theorem dX6_actsBy_2 : decode cX6_actsBy 2 = .ok (.if_icmp .ne 8, 3) := by decide +kernel
theorem dX6_actsBy_5 : decode cX6_actsBy 5 = .ok (.aload_n 0, 1) := by decide +kernel
theorem dX6_actsBy_6 : decode cX6_actsBy 6 = .ok (.getfield 162, 3) := by decide +kernel
theorem dX6_actsBy_9 : decode cX6_actsBy 9 = .ok (.ireturn, 1) := by decide +kernel
theorem dX6_actsBy_10 : decode cX6_actsBy 10 = .ok (.aload_n 0, 1) := by decide +kernel
theorem dX6_actsBy_11 : decode cX6_actsBy 11 = .ok (.getfield 162, 3) := by decide +kernel
theorem dX6_actsBy_14 : decode cX6_actsBy 14 = .ok (.ifCond .lt 11, 3) := by decide +kernel
theorem dX6_actsBy_17 : decode cX6_actsBy 17 = .ok (.bipush (-100), 2) := by decide +kernel
theorem dX6_actsBy_19 : decode cX6_actsBy 19 = .ok (.aload_n 0, 1) := by decide +kernel
theorem dX6_actsBy_20 : decode cX6_actsBy 20 = .ok (.getfield 162, 3) := by decide +kernel
theorem dX6_actsBy_23 : decode cX6_actsBy 23 = .ok (.isub, 1) := by decide +kernel
theorem dX6_actsBy_24 : decode cX6_actsBy 24 = .ok (.ireturn, 1) := by decide +kernel
theorem dX6_actsBy_25 : decode cX6_actsBy 25 = .ok (.iload_n 1, 1) := by decide +kernel
theorem dX6_actsBy_26 : decode cX6_actsBy 26 = .ok (.bipush 9, 2) := by decide +kernel
theorem dX6_actsBy_28 : decode cX6_actsBy 28 = .ok (.if_icmp .le 29, 3) := by decide +kernel
theorem dX6_actsBy_31 : decode cX6_actsBy 31 = .ok (.aload_n 0, 1) := by decide +kernel
theorem dX6_actsBy_32 : decode cX6_actsBy 32 = .ok (.iload_n 1, 1) := by decide +kernel
theorem dX6_actsBy_33 : decode cX6_actsBy 33 = .ok (.bipush 10, 2) := by decide +kernel
theorem dX6_actsBy_35 : decode cX6_actsBy 35 = .ok (.isub, 1) := by decide +kernel
theorem dX6_actsBy_36 : decode cX6_actsBy 36 = .ok (.invokevirtual 131, 3) := by decide +kernel
theorem dX6_actsBy_39 : decode cX6_actsBy 39 = .ok (.ifCond .eq 8, 3) := by decide +kernel
theorem dX6_actsBy_42 : decode cX6_actsBy 42 = .ok (.bipush (-9), 2) := by decide +kernel
theorem dX6_actsBy_44 : decode cX6_actsBy 44 = .ok (.goto 12, 3) := by decide +kernel
theorem dX6_actsBy_47 : decode cX6_actsBy 47 = .ok (.aload_n 0, 1) := by decide +kernel
theorem dX6_actsBy_48 : decode cX6_actsBy 48 = .ok (.getfield 28, 3) := by decide +kernel
theorem dX6_actsBy_51 : decode cX6_actsBy 51 = .ok (.iload_n 1, 1) := by decide +kernel
theorem dX6_actsBy_52 : decode cX6_actsBy 52 = .ok (.bipush 10, 2) := by decide +kernel
theorem dX6_actsBy_54 : decode cX6_actsBy 54 = .ok (.isub, 1) := by decide +kernel
theorem dX6_actsBy_55 : decode cX6_actsBy 55 = .ok (.iaload, 1) := by decide +kernel
theorem dX6_actsBy_56 : decode cX6_actsBy 56 = .ok (.ireturn, 1) := by decide +kernel
theorem dX6_actsBy_57 : decode cX6_actsBy 57 = .ok (.iload_n 1, 1) := by decide +kernel
theorem dX6_actsBy_58 : decode cX6_actsBy 58 = .ok (.ifCond .ne 10, 3) := by decide +kernel
theorem dX6_actsBy_61 : decode cX6_actsBy 61 = .ok (.aload_n 0, 1) := by decide +kernel
theorem dX6_actsBy_62 : decode cX6_actsBy 62 = .ok (.invokevirtual 168, 3) := by decide +kernel
theorem dX6_actsBy_65 : decode cX6_actsBy 65 = .ok (.goto 19, 3) := by decide +kernel
theorem dX6_actsBy_68 : decode cX6_actsBy 68 = .ok (.iload_n 1, 1) := by decide +kernel
theorem dX6_actsBy_69 : decode cX6_actsBy 69 = .ok (.iconst 2, 1) := by decide +kernel
theorem dX6_actsBy_70 : decode cX6_actsBy 70 = .ok (.if_icmp .ne 10, 3) := by decide +kernel
theorem dX6_actsBy_73 : decode cX6_actsBy 73 = .ok (.aload_n 0, 1) := by decide +kernel
theorem dX6_actsBy_74 : decode cX6_actsBy 74 = .ok (.getfield 165, 3) := by decide +kernel
theorem dX6_actsBy_77 : decode cX6_actsBy 77 = .ok (.goto 7, 3) := by decide +kernel
theorem dX6_actsBy_80 : decode cX6_actsBy 80 = .ok (.aload_n 0, 1) := by decide +kernel
theorem dX6_actsBy_81 : decode cX6_actsBy 81 = .ok (.invokevirtual 150, 3) := by decide +kernel
theorem dX6_actsBy_84 : decode cX6_actsBy 84 = .ok (.ireturn, 1) := by decide +kernel
set_option maxRecDepth 20000 in
theorem ggX6_acts_X6_noSheet : GoodIn wsX6_acts wsX6_noSheet := goodIn_r _ [11, 1, 12, 13, 10, 14] (by decide +kernel) (by decide +kernel)
set_option maxRecDepth 20000 in
theorem gX6_acts_X6_noSheet : GoodIn wsX6_acts (va_wsS RX6 109 yX6_noSheet wsX6_noSheet) := goodIn_app (goodIn_of _ (by decide +kernel)) ggX6_acts_X6_noSheet
set_option maxRecDepth 20000 in
theorem ggX6_acts_X6_refused : GoodIn wsX6_acts wsX6_refused := goodIn_r _ [18, 19, 80, 81, 82, 83, 84, 85, 86, 87, 88, 89, 90, 91, 92, 93, 94, 95, 96, 97, 98, 99, 100, 101, 102, 103, 104, 105, 106, 107, 108, 109] (by decide +kernel) (by decide +kernel)
set_option maxRecDepth 20000 in
theorem gX6_acts_X6_refused : GoodIn wsX6_acts (wsV RX6 113 RX6 yX6_refused wsX6_refused) := goodIn_app (goodIn_of _ (by decide +kernel)) ggX6_acts_X6_refused
set_option maxRecDepth 20000 in
theorem ggX6_acts_X6_in : GoodIn wsX6_acts wsX6_in := goodIn_r _ [14] (by decide +kernel) (by decide +kernel)
set_option maxRecDepth 20000 in
theorem gX6_acts_X6_in : GoodIn wsX6_acts (va_wsS RX6 76 yX6_in wsX6_in) := goodIn_app (goodIn_of _ (by decide +kernel)) ggX6_acts_X6_in
set_option maxRecDepth 20000 in
theorem ggX6_acts_X6_cellsBarred : GoodIn wsX6_acts wsX6_cellsBarred := goodIn_r _ [23, 24, 25, 26, 27, 28, 10, 29, 19, 30, 31, 32, 80, 81, 82, 83, 84, 85, 86, 87, 88, 89, 90, 91, 92, 93, 94, 95, 96, 97, 98, 99, 100, 101, 102, 103, 104, 105, 106, 107, 108, 109] (by decide +kernel) (by decide +kernel)
set_option maxRecDepth 20000 in
theorem gX6_acts_X6_cellsBarred : GoodIn wsX6_acts (wsV RX6 118 RX6 yX6_cellsBarred wsX6_cellsBarred) := goodIn_app (goodIn_of _ (by decide +kernel)) ggX6_acts_X6_cellsBarred
set_option maxRecDepth 20000 in
theorem ggX6_acts_X6_goActs : GoodIn wsX6_acts wsX6_goActs := goodIn_r _ [36, 37, 38, 7, 6, 39, 40, 41, 10, 42, 43, 44, 45, 46, 47, 48, 49, 50, 51, 52, 53, 54, 55, 56, 57, 58, 59, 60, 61, 62, 63, 80, 81, 82, 83, 84, 85, 86, 87, 88, 89, 90, 91, 92, 93, 94, 95, 96, 97, 98, 99, 100, 101, 102, 103, 104, 105, 106, 107, 108, 109] (by decide +kernel) (by decide +kernel)
set_option maxRecDepth 20000 in
theorem gX6_acts_X6_goActs : GoodIn wsX6_acts (wsV RX6 175 RX6 yX6_goActs wsX6_goActs) := goodIn_app (goodIn_of _ (by decide +kernel)) ggX6_acts_X6_goActs
set_option maxRecDepth 20000 in
theorem ggX6_acts_X6_actsBy : GoodIn wsX6_acts wsX6_actsBy := goodIn_r _ [67, 37, 43, 38, 68, 69, 70, 10, 71, 6, 12, 13, 14, 72, 73, 74, 75, 76, 77, 78, 79, 54, 55, 56, 57, 58, 59, 60, 61, 62, 63, 80, 81, 82, 83, 84, 85, 86, 87, 88, 89, 90, 91, 92, 93, 94, 95, 96, 97, 98, 99, 100, 101, 102, 103, 104, 105, 106, 107, 108, 109] (by decide +kernel) (by decide +kernel)
set_option maxRecDepth 20000 in
theorem gX6_acts_X6_actsBy : GoodIn wsX6_acts (wsV RX6 179 RX6 yX6_actsBy wsX6_actsBy) := goodIn_app (goodIn_of _ (by decide +kernel)) ggX6_acts_X6_actsBy
theorem dX6_acts_0 : decode cX6_acts 0 = .ok (.iload_n 1, 1) := by decide +kernel
theorem dX6_acts_1 : decode cX6_acts 1 = .ok (.invokestatic 109, 3) := by decide +kernel
theorem dX6_acts_4 : decode cX6_acts 4 = .ok (.ifCond .eq 9, 3) := by decide +kernel
theorem dX6_acts_7 : decode cX6_acts 7 = .ok (.aload_n 0, 1) := by decide +kernel
theorem dX6_acts_8 : decode cX6_acts 8 = .ok (.iconst (-1), 1) := by decide +kernel
theorem dX6_acts_9 : decode cX6_acts 9 = .ok (.invokevirtual 113, 3) := by decide +kernel
theorem dX6_acts_12 : decode cX6_acts 12 = .ok (.ireturn, 1) := by decide +kernel
theorem dX6_acts_13 : decode cX6_acts 13 = .ok (.iload 5, 2) := by decide +kernel
theorem dX6_acts_15 : decode cX6_acts 15 = .ok (.i2l, 1) := by decide +kernel
theorem dX6_acts_16 : decode cX6_acts 16 = .ok (.lconst 0, 1) := by decide +kernel
theorem dX6_acts_17 : decode cX6_acts 17 = .ok (.ldc2_w 139, 3) := by decide +kernel
theorem dX6_acts_20 : decode cX6_acts 20 = .ok (.invokestatic 76, 3) := by decide +kernel
theorem dX6_acts_23 : decode cX6_acts 23 = .ok (.ifCond .ne 18, 3) := by decide +kernel
theorem dX6_acts_26 : decode cX6_acts 26 = .ok (.iload 5, 2) := by decide +kernel
theorem dX6_acts_28 : decode cX6_acts 28 = .ok (.i2l, 1) := by decide +kernel
theorem dX6_acts_29 : decode cX6_acts 29 = .ok (.ldc2_w 171, 3) := by decide +kernel
theorem dX6_acts_32 : decode cX6_acts 32 = .ok (.ldc2_w 173, 3) := by decide +kernel
theorem dX6_acts_35 : decode cX6_acts 35 = .ok (.invokestatic 76, 3) := by decide +kernel
theorem dX6_acts_38 : decode cX6_acts 38 = .ok (.ifCond .eq 7, 3) := by decide +kernel
theorem dX6_acts_41 : decode cX6_acts 41 = .ok (.iconst 1, 1) := by decide +kernel
theorem dX6_acts_42 : decode cX6_acts 42 = .ok (.goto 4, 3) := by decide +kernel
theorem dX6_acts_45 : decode cX6_acts 45 = .ok (.iconst 0, 1) := by decide +kernel
theorem dX6_acts_46 : decode cX6_acts 46 = .ok (.istore 6, 2) := by decide +kernel
theorem dX6_acts_48 : decode cX6_acts 48 = .ok (.iload_n 2, 1) := by decide +kernel
theorem dX6_acts_49 : decode cX6_acts 49 = .ok (.i2l, 1) := by decide +kernel
theorem dX6_acts_50 : decode cX6_acts 50 = .ok (.lconst 0, 1) := by decide +kernel
theorem dX6_acts_51 : decode cX6_acts 51 = .ok (.ldc2_w 116, 3) := by decide +kernel
theorem dX6_acts_54 : decode cX6_acts 54 = .ok (.invokestatic 76, 3) := by decide +kernel
theorem dX6_acts_57 : decode cX6_acts 57 = .ok (.ifCond .eq 21, 3) := by decide +kernel
theorem dX6_acts_60 : decode cX6_acts 60 = .ok (.iload 4, 2) := by decide +kernel
theorem dX6_acts_62 : decode cX6_acts 62 = .ok (.i2l, 1) := by decide +kernel
theorem dX6_acts_63 : decode cX6_acts 63 = .ok (.lconst 0, 1) := by decide +kernel
theorem dX6_acts_64 : decode cX6_acts 64 = .ok (.ldc2_w 160, 3) := by decide +kernel
theorem dX6_acts_67 : decode cX6_acts 67 = .ok (.invokestatic 76, 3) := by decide +kernel
theorem dX6_acts_70 : decode cX6_acts 70 = .ok (.ifCond .eq 8, 3) := by decide +kernel
theorem dX6_acts_73 : decode cX6_acts 73 = .ok (.iload 6, 2) := by decide +kernel
theorem dX6_acts_75 : decode cX6_acts 75 = .ok (.ifCond .ne 10, 3) := by decide +kernel
theorem dX6_acts_78 : decode cX6_acts 78 = .ok (.aload_n 0, 1) := by decide +kernel
theorem dX6_acts_79 : decode cX6_acts 79 = .ok (.bipush (-2), 2) := by decide +kernel
theorem dX6_acts_81 : decode cX6_acts 81 = .ok (.invokevirtual 113, 3) := by decide +kernel
theorem dX6_acts_84 : decode cX6_acts 84 = .ok (.ireturn, 1) := by decide +kernel
theorem dX6_acts_85 : decode cX6_acts 85 = .ok (.aload_n 0, 1) := by decide +kernel
theorem dX6_acts_86 : decode cX6_acts 86 = .ok (.getfield 73, 3) := by decide +kernel
theorem dX6_acts_89 : decode cX6_acts 89 = .ok (.ifCond .ne 10, 3) := by decide +kernel
theorem dX6_acts_92 : decode cX6_acts 92 = .ok (.aload_n 0, 1) := by decide +kernel
theorem dX6_acts_93 : decode cX6_acts 93 = .ok (.bipush (-3), 2) := by decide +kernel
theorem dX6_acts_95 : decode cX6_acts 95 = .ok (.invokevirtual 113, 3) := by decide +kernel
theorem dX6_acts_98 : decode cX6_acts 98 = .ok (.ireturn, 1) := by decide +kernel
theorem dX6_acts_99 : decode cX6_acts 99 = .ok (.aload_n 0, 1) := by decide +kernel
theorem dX6_acts_100 : decode cX6_acts 100 = .ok (.iload_n 1, 1) := by decide +kernel
theorem dX6_acts_101 : decode cX6_acts 101 = .ok (.iload_n 2, 1) := by decide +kernel
theorem dX6_acts_102 : decode cX6_acts 102 = .ok (.iload_n 3, 1) := by decide +kernel
theorem dX6_acts_103 : decode cX6_acts 103 = .ok (.iload 4, 2) := by decide +kernel
theorem dX6_acts_105 : decode cX6_acts 105 = .ok (.i2l, 1) := by decide +kernel
theorem dX6_acts_106 : decode cX6_acts 106 = .ok (.invokevirtual 118, 3) := by decide +kernel
theorem dX6_acts_109 : decode cX6_acts 109 = .ok (.istore 7, 2) := by decide +kernel
theorem dX6_acts_111 : decode cX6_acts 111 = .ok (.iload 7, 2) := by decide +kernel
theorem dX6_acts_113 : decode cX6_acts 113 = .ok (.ifCond .ge 6, 3) := by decide +kernel
theorem dX6_acts_116 : decode cX6_acts 116 = .ok (.iload 7, 2) := by decide +kernel
theorem dX6_acts_118 : decode cX6_acts 118 = .ok (.ireturn, 1) := by decide +kernel
theorem dX6_acts_119 : decode cX6_acts 119 = .ok (.iconst 0, 1) := by decide +kernel
theorem dX6_acts_120 : decode cX6_acts 120 = .ok (.istore 8, 2) := by decide +kernel
theorem dX6_acts_122 : decode cX6_acts 122 = .ok (.iload 8, 2) := by decide +kernel
theorem dX6_acts_124 : decode cX6_acts 124 = .ok (.iload 4, 2) := by decide +kernel
theorem dX6_acts_126 : decode cX6_acts 126 = .ok (.if_icmp .ge 45, 3) := by decide +kernel
theorem dX6_acts_129 : decode cX6_acts 129 = .ok (.aload_n 0, 1) := by decide +kernel
theorem dX6_acts_130 : decode cX6_acts 130 = .ok (.getfield 57, 3) := by decide +kernel
theorem dX6_acts_133 : decode cX6_acts 133 = .ok (.bipush 60, 2) := by decide +kernel
theorem dX6_acts_135 : decode cX6_acts 135 = .ok (.iload_n 1, 1) := by decide +kernel
theorem dX6_acts_136 : decode cX6_acts 136 = .ok (.imul, 1) := by decide +kernel
theorem dX6_acts_137 : decode cX6_acts 137 = .ok (.iload_n 3, 1) := by decide +kernel
theorem dX6_acts_138 : decode cX6_acts 138 = .ok (.iadd, 1) := by decide +kernel
theorem dX6_acts_139 : decode cX6_acts 139 = .ok (.iload 8, 2) := by decide +kernel
theorem dX6_acts_141 : decode cX6_acts 141 = .ok (.iadd, 1) := by decide +kernel
theorem dX6_acts_142 : decode cX6_acts 142 = .ok (.iaload, 1) := by decide +kernel
theorem dX6_acts_143 : decode cX6_acts 143 = .ok (.i2l, 1) := by decide +kernel
theorem dX6_acts_144 : decode cX6_acts 144 = .ok (.lconst 0, 1) := by decide +kernel
theorem dX6_acts_145 : decode cX6_acts 145 = .ok (.aload_n 0, 1) := by decide +kernel
theorem dX6_acts_146 : decode cX6_acts 146 = .ok (.getfield 73, 3) := by decide +kernel
theorem dX6_acts_149 : decode cX6_acts 149 = .ok (.i2l, 1) := by decide +kernel
theorem dX6_acts_150 : decode cX6_acts 150 = .ok (.lconst 1, 1) := by decide +kernel
theorem dX6_acts_151 : decode cX6_acts 151 = .ok (.lsub, 1) := by decide +kernel
theorem dX6_acts_152 : decode cX6_acts 152 = .ok (.invokestatic 76, 3) := by decide +kernel
theorem dX6_acts_155 : decode cX6_acts 155 = .ok (.ifCond .ne 10, 3) := by decide +kernel
theorem dX6_acts_158 : decode cX6_acts 158 = .ok (.aload_n 0, 1) := by decide +kernel
theorem dX6_acts_159 : decode cX6_acts 159 = .ok (.bipush (-2), 2) := by decide +kernel
theorem dX6_acts_161 : decode cX6_acts 161 = .ok (.invokevirtual 113, 3) := by decide +kernel
theorem dX6_acts_164 : decode cX6_acts 164 = .ok (.ireturn, 1) := by decide +kernel
theorem dX6_acts_165 : decode cX6_acts 165 = .ok (.iinc 8 1, 3) := by decide +kernel
theorem dX6_acts_168 : decode cX6_acts 168 = .ok (.goto (-46), 3) := by decide +kernel
theorem dX6_acts_171 : decode cX6_acts 171 = .ok (.aload_n 0, 1) := by decide +kernel
theorem dX6_acts_172 : decode cX6_acts 172 = .ok (.bipush 60, 2) := by decide +kernel
theorem dX6_acts_174 : decode cX6_acts 174 = .ok (.iload_n 1, 1) := by decide +kernel
theorem dX6_acts_175 : decode cX6_acts 175 = .ok (.imul, 1) := by decide +kernel
theorem dX6_acts_176 : decode cX6_acts 176 = .ok (.iload_n 3, 1) := by decide +kernel
theorem dX6_acts_177 : decode cX6_acts 177 = .ok (.iadd, 1) := by decide +kernel
theorem dX6_acts_178 : decode cX6_acts 178 = .ok (.iload 4, 2) := by decide +kernel
theorem dX6_acts_180 : decode cX6_acts 180 = .ok (.invokevirtual 175, 3) := by decide +kernel
theorem dX6_acts_183 : decode cX6_acts 183 = .ok (.aload_n 0, 1) := by decide +kernel
theorem dX6_acts_184 : decode cX6_acts 184 = .ok (.aload_n 0, 1) := by decide +kernel
theorem dX6_acts_185 : decode cX6_acts 185 = .ok (.iload 5, 2) := by decide +kernel
theorem dX6_acts_187 : decode cX6_acts 187 = .ok (.invokevirtual 179, 3) := by decide +kernel
theorem dX6_acts_190 : decode cX6_acts 190 = .ok (.invokevirtual 113, 3) := by decide +kernel
theorem dX6_acts_193 : decode cX6_acts 193 = .ok (.ireturn, 1) := by decide +kernel
theorem dX6_wayNow_0 : decode cX6_wayNow 0 = .ok (.aload_n 0, 1) := by decide +kernel
theorem dX6_wayNow_1 : decode cX6_wayNow 1 = .ok (.getfield 182, 3) := by decide +kernel
theorem dX6_wayNow_4 : decode cX6_wayNow 4 = .ok (.istore_n 1, 1) := by decide +kernel
theorem dX6_wayNow_5 : decode cX6_wayNow 5 = .ok (.iconst 0, 1) := by decide +kernel
theorem dX6_wayNow_6 : decode cX6_wayNow 6 = .ok (.istore_n 2, 1) := by decide +kernel
theorem dX6_wayNow_7 : decode cX6_wayNow 7 = .ok (.iload_n 2, 1) := by decide +kernel
theorem dX6_wayNow_8 : decode cX6_wayNow 8 = .ok (.iconst 4, 1) := by decide +kernel
theorem dX6_wayNow_9 : decode cX6_wayNow 9 = .ok (.if_icmp .ge 33, 3) := by decide +kernel
theorem dX6_wayNow_12 : decode cX6_wayNow 12 = .ok (.bipush 10, 2) := by decide +kernel
theorem dX6_wayNow_14 : decode cX6_wayNow 14 = .ok (.iload_n 1, 1) := by decide +kernel
theorem dX6_wayNow_15 : decode cX6_wayNow 15 = .ok (.imul, 1) := by decide +kernel
theorem dX6_wayNow_16 : decode cX6_wayNow 16 = .ok (.iload_n 2, 1) := by decide +kernel
theorem dX6_wayNow_17 : decode cX6_wayNow 17 = .ok (.aload_n 0, 1) := by decide +kernel
theorem dX6_wayNow_18 : decode cX6_wayNow 18 = .ok (.getfield 73, 3) := by decide +kernel
theorem dX6_wayNow_21 : decode cX6_wayNow 21 = .ok (.if_icmp .ge 12, 3) := by decide +kernel
theorem dX6_wayNow_24 : decode cX6_wayNow 24 = .ok (.aload_n 0, 1) := by decide +kernel
theorem dX6_wayNow_25 : decode cX6_wayNow 25 = .ok (.getfield 28, 3) := by decide +kernel
theorem dX6_wayNow_28 : decode cX6_wayNow 28 = .ok (.iload_n 2, 1) := by decide +kernel
theorem dX6_wayNow_29 : decode cX6_wayNow 29 = .ok (.iaload, 1) := by decide +kernel
theorem dX6_wayNow_30 : decode cX6_wayNow 30 = .ok (.goto 4, 3) := by decide +kernel
theorem dX6_wayNow_33 : decode cX6_wayNow 33 = .ok (.iconst 0, 1) := by decide +kernel
theorem dX6_wayNow_34 : decode cX6_wayNow 34 = .ok (.iadd, 1) := by decide +kernel
theorem dX6_wayNow_35 : decode cX6_wayNow 35 = .ok (.istore_n 1, 1) := by decide +kernel
theorem dX6_wayNow_36 : decode cX6_wayNow 36 = .ok (.iinc 2 1, 3) := by decide +kernel
theorem dX6_wayNow_39 : decode cX6_wayNow 39 = .ok (.goto (-32), 3) := by decide +kernel
theorem dX6_wayNow_42 : decode cX6_wayNow 42 = .ok (.iload_n 1, 1) := by decide +kernel
theorem dX6_wayNow_43 : decode cX6_wayNow 43 = .ok (.ireturn, 1) := by decide +kernel
theorem dX6_goTo_0 : decode cX6_goTo 0 = .ok (.iload_n 1, 1) := by decide +kernel
theorem dX6_goTo_1 : decode cX6_goTo 1 = .ok (.istore_n 2, 1) := by decide +kernel
theorem dX6_goTo_2 : decode cX6_goTo 2 = .ok (.iconst 3, 1) := by decide +kernel
theorem dX6_goTo_3 : decode cX6_goTo 3 = .ok (.istore_n 3, 1) := by decide +kernel
theorem dX6_goTo_4 : decode cX6_goTo 4 = .ok (.iload_n 3, 1) := by decide +kernel
theorem dX6_goTo_5 : decode cX6_goTo 5 = .ok (.ifCond .lt 32, 3) := by decide +kernel
theorem dX6_goTo_8 : decode cX6_goTo 8 = .ok (.iload_n 3, 1) := by decide +kernel
theorem dX6_goTo_9 : decode cX6_goTo 9 = .ok (.aload_n 0, 1) := by decide +kernel
theorem dX6_goTo_10 : decode cX6_goTo 10 = .ok (.getfield 73, 3) := by decide +kernel
theorem dX6_goTo_13 : decode cX6_goTo 13 = .ok (.if_icmp .ge 13, 3) := by decide +kernel
theorem dX6_goTo_16 : decode cX6_goTo 16 = .ok (.aload_n 0, 1) := by decide +kernel
theorem dX6_goTo_17 : decode cX6_goTo 17 = .ok (.getfield 28, 3) := by decide +kernel
theorem dX6_goTo_20 : decode cX6_goTo 20 = .ok (.iload_n 3, 1) := by decide +kernel
theorem dX6_goTo_21 : decode cX6_goTo 21 = .ok (.iload_n 2, 1) := by decide +kernel
theorem dX6_goTo_22 : decode cX6_goTo 22 = .ok (.bipush 10, 2) := by decide +kernel
theorem dX6_goTo_24 : decode cX6_goTo 24 = .ok (.irem, 1) := by decide +kernel
theorem dX6_goTo_25 : decode cX6_goTo 25 = .ok (.iastore, 1) := by decide +kernel
theorem dX6_goTo_26 : decode cX6_goTo 26 = .ok (.iload_n 2, 1) := by decide +kernel
theorem dX6_goTo_27 : decode cX6_goTo 27 = .ok (.bipush 10, 2) := by decide +kernel
theorem dX6_goTo_29 : decode cX6_goTo 29 = .ok (.idiv, 1) := by decide +kernel
theorem dX6_goTo_30 : decode cX6_goTo 30 = .ok (.istore_n 2, 1) := by decide +kernel
theorem dX6_goTo_31 : decode cX6_goTo 31 = .ok (.iinc 3 (-1), 3) := by decide +kernel
theorem dX6_goTo_34 : decode cX6_goTo 34 = .ok (.goto (-30), 3) := by decide +kernel
theorem dX6_goTo_37 : decode cX6_goTo 37 = .ok (.aload_n 0, 1) := by decide +kernel
theorem dX6_goTo_38 : decode cX6_goTo 38 = .ok (.iload_n 2, 1) := by decide +kernel
theorem dX6_goTo_39 : decode cX6_goTo 39 = .ok (.putfield 182, 3) := by decide +kernel
theorem dX6_goTo_42 : decode cX6_goTo 42 = .ok (.return_, 1) := by decide +kernel
theorem dX6_isThere_0 : decode cX6_isThere 0 = .ok (.iload_n 2, 1) := by decide +kernel
theorem dX6_isThere_1 : decode cX6_isThere 1 = .ok (.ifCond .ge 19, 3) := by decide +kernel
theorem dX6_isThere_4 : decode cX6_isThere 4 = .ok (.aload_n 0, 1) := by decide +kernel
theorem dX6_isThere_5 : decode cX6_isThere 5 = .ok (.getfield 182, 3) := by decide +kernel
theorem dX6_isThere_8 : decode cX6_isThere 8 = .ok (.iload_n 1, 1) := by decide +kernel
theorem dX6_isThere_9 : decode cX6_isThere 9 = .ok (.if_icmp .ne 7, 3) := by decide +kernel
theorem dX6_isThere_12 : decode cX6_isThere 12 = .ok (.iconst 1, 1) := by decide +kernel
theorem dX6_isThere_13 : decode cX6_isThere 13 = .ok (.goto 22, 3) := by decide +kernel
theorem dX6_isThere_16 : decode cX6_isThere 16 = .ok (.iconst 0, 1) := by decide +kernel
theorem dX6_isThere_17 : decode cX6_isThere 17 = .ok (.goto 18, 3) := by decide +kernel
theorem dX6_isThere_20 : decode cX6_isThere 20 = .ok (.aload_n 0, 1) := by decide +kernel
theorem dX6_isThere_21 : decode cX6_isThere 21 = .ok (.getfield 28, 3) := by decide +kernel
theorem dX6_isThere_24 : decode cX6_isThere 24 = .ok (.iload_n 1, 1) := by decide +kernel
theorem dX6_isThere_25 : decode cX6_isThere 25 = .ok (.iaload, 1) := by decide +kernel
theorem dX6_isThere_26 : decode cX6_isThere 26 = .ok (.iload_n 2, 1) := by decide +kernel
theorem dX6_isThere_27 : decode cX6_isThere 27 = .ok (.if_icmp .lt 7, 3) := by decide +kernel
theorem dX6_isThere_30 : decode cX6_isThere 30 = .ok (.iconst 1, 1) := by decide +kernel
theorem dX6_isThere_31 : decode cX6_isThere 31 = .ok (.goto 4, 3) := by decide +kernel
theorem dX6_isThere_34 : decode cX6_isThere 34 = .ok (.iconst 0, 1) := by decide +kernel
theorem dX6_isThere_35 : decode cX6_isThere 35 = .ok (.ireturn, 1) := by decide +kernel
set_option maxRecDepth 20000 in
theorem ggX6_comeTo_X6_wayNow : GoodIn wsX6_comeTo wsX6_wayNow := goodIn_r _ [8, 9, 10, 11, 12, 13, 14, 15, 16, 17, 18, 19, 20, 21, 22, 23, 24, 25, 26, 27, 28, 29, 30, 31, 32, 33, 34, 35, 36, 37, 38, 39, 40, 41] (by decide +kernel) (by decide +kernel)
set_option maxRecDepth 20000 in
theorem gX6_comeTo_X6_wayNow : GoodIn wsX6_comeTo (wsV RX6 185 RX6 yX6_wayNow wsX6_wayNow) := goodIn_app (goodIn_of _ (by decide +kernel)) ggX6_comeTo_X6_wayNow
theorem dX6_comeTo_0 : decode cX6_comeTo 0 = .ok (.aload_n 0, 1) := by decide +kernel
theorem dX6_comeTo_1 : decode cX6_comeTo 1 = .ok (.invokevirtual 185, 3) := by decide +kernel
theorem dX6_comeTo_4 : decode cX6_comeTo 4 = .ok (.istore_n 3, 1) := by decide +kernel
theorem dX6_comeTo_5 : decode cX6_comeTo 5 = .ok (.aload_n 0, 1) := by decide +kernel
theorem dX6_comeTo_6 : decode cX6_comeTo 6 = .ok (.getfield 32, 3) := by decide +kernel
theorem dX6_comeTo_9 : decode cX6_comeTo 9 = .ok (.iload_n 3, 1) := by decide +kernel
theorem dX6_comeTo_10 : decode cX6_comeTo 10 = .ok (.iaload, 1) := by decide +kernel
theorem dX6_comeTo_11 : decode cX6_comeTo 11 = .ok (.bipush (-9), 2) := by decide +kernel
theorem dX6_comeTo_13 : decode cX6_comeTo 13 = .ok (.if_icmp .ne 35, 3) := by decide +kernel
theorem dX6_comeTo_16 : decode cX6_comeTo 16 = .ok (.aload_n 0, 1) := by decide +kernel
theorem dX6_comeTo_17 : decode cX6_comeTo 17 = .ok (.getfield 32, 3) := by decide +kernel
theorem dX6_comeTo_20 : decode cX6_comeTo 20 = .ok (.iload_n 3, 1) := by decide +kernel
theorem dX6_comeTo_21 : decode cX6_comeTo 21 = .ok (.bipush 8, 2) := by decide +kernel
theorem dX6_comeTo_23 : decode cX6_comeTo 23 = .ok (.iload_n 1, 1) := by decide +kernel
theorem dX6_comeTo_24 : decode cX6_comeTo 24 = .ok (.imul, 1) := by decide +kernel
theorem dX6_comeTo_25 : decode cX6_comeTo 25 = .ok (.iload_n 2, 1) := by decide +kernel
theorem dX6_comeTo_26 : decode cX6_comeTo 26 = .ok (.iadd, 1) := by decide +kernel
theorem dX6_comeTo_27 : decode cX6_comeTo 27 = .ok (.iastore, 1) := by decide +kernel
theorem dX6_comeTo_28 : decode cX6_comeTo 28 = .ok (.aload_n 0, 1) := by decide +kernel
theorem dX6_comeTo_29 : decode cX6_comeTo 29 = .ok (.getfield 35, 3) := by decide +kernel
theorem dX6_comeTo_32 : decode cX6_comeTo 32 = .ok (.aload_n 0, 1) := by decide +kernel
theorem dX6_comeTo_33 : decode cX6_comeTo 33 = .ok (.getfield 188, 3) := by decide +kernel
theorem dX6_comeTo_36 : decode cX6_comeTo 36 = .ok (.iload_n 3, 1) := by decide +kernel
theorem dX6_comeTo_37 : decode cX6_comeTo 37 = .ok (.iastore, 1) := by decide +kernel
theorem dX6_comeTo_38 : decode cX6_comeTo 38 = .ok (.aload_n 0, 1) := by decide +kernel
theorem dX6_comeTo_39 : decode cX6_comeTo 39 = .ok (.dup, 1) := by decide +kernel
theorem dX6_comeTo_40 : decode cX6_comeTo 40 = .ok (.getfield 188, 3) := by decide +kernel
theorem dX6_comeTo_43 : decode cX6_comeTo 43 = .ok (.iconst 1, 1) := by decide +kernel
theorem dX6_comeTo_44 : decode cX6_comeTo 44 = .ok (.iadd, 1) := by decide +kernel
theorem dX6_comeTo_45 : decode cX6_comeTo 45 = .ok (.putfield 188, 3) := by decide +kernel
theorem dX6_comeTo_48 : decode cX6_comeTo 48 = .ok (.return_, 1) := by decide +kernel
theorem dX6_keepRow_0 : decode cX6_keepRow 0 = .ok (.aload_n 0, 1) := by decide +kernel
theorem dX6_keepRow_1 : decode cX6_keepRow 1 = .ok (.iconst 0, 1) := by decide +kernel
theorem dX6_keepRow_2 : decode cX6_keepRow 2 = .ok (.putfield 191, 3) := by decide +kernel
theorem dX6_keepRow_5 : decode cX6_keepRow 5 = .ok (.iload_n 2, 1) := by decide +kernel
theorem dX6_keepRow_6 : decode cX6_keepRow 6 = .ok (.istore_n 3, 1) := by decide +kernel
theorem dX6_keepRow_7 : decode cX6_keepRow 7 = .ok (.iload_n 3, 1) := by decide +kernel
theorem dX6_keepRow_8 : decode cX6_keepRow 8 = .ok (.iload_n 1, 1) := by decide +kernel
theorem dX6_keepRow_9 : decode cX6_keepRow 9 = .ok (.if_icmp .eq 44, 3) := by decide +kernel
theorem dX6_keepRow_12 : decode cX6_keepRow 12 = .ok (.aload_n 0, 1) := by decide +kernel
theorem dX6_keepRow_13 : decode cX6_keepRow 13 = .ok (.getfield 38, 3) := by decide +kernel
theorem dX6_keepRow_16 : decode cX6_keepRow 16 = .ok (.aload_n 0, 1) := by decide +kernel
theorem dX6_keepRow_17 : decode cX6_keepRow 17 = .ok (.getfield 191, 3) := by decide +kernel
theorem dX6_keepRow_20 : decode cX6_keepRow 20 = .ok (.aload_n 0, 1) := by decide +kernel
theorem dX6_keepRow_21 : decode cX6_keepRow 21 = .ok (.getfield 32, 3) := by decide +kernel
theorem dX6_keepRow_24 : decode cX6_keepRow 24 = .ok (.iload_n 3, 1) := by decide +kernel
theorem dX6_keepRow_25 : decode cX6_keepRow 25 = .ok (.iaload, 1) := by decide +kernel
theorem dX6_keepRow_26 : decode cX6_keepRow 26 = .ok (.bipush 8, 2) := by decide +kernel
theorem dX6_keepRow_28 : decode cX6_keepRow 28 = .ok (.irem, 1) := by decide +kernel
theorem dX6_keepRow_29 : decode cX6_keepRow 29 = .ok (.iastore, 1) := by decide +kernel
theorem dX6_keepRow_30 : decode cX6_keepRow 30 = .ok (.aload_n 0, 1) := by decide +kernel
theorem dX6_keepRow_31 : decode cX6_keepRow 31 = .ok (.dup, 1) := by decide +kernel
theorem dX6_keepRow_32 : decode cX6_keepRow 32 = .ok (.getfield 191, 3) := by decide +kernel
theorem dX6_keepRow_35 : decode cX6_keepRow 35 = .ok (.iconst 1, 1) := by decide +kernel
theorem dX6_keepRow_36 : decode cX6_keepRow 36 = .ok (.iadd, 1) := by decide +kernel
theorem dX6_keepRow_37 : decode cX6_keepRow 37 = .ok (.putfield 191, 3) := by decide +kernel
theorem dX6_keepRow_40 : decode cX6_keepRow 40 = .ok (.aload_n 0, 1) := by decide +kernel
theorem dX6_keepRow_41 : decode cX6_keepRow 41 = .ok (.getfield 32, 3) := by decide +kernel
theorem dX6_keepRow_44 : decode cX6_keepRow 44 = .ok (.iload_n 3, 1) := by decide +kernel
theorem dX6_keepRow_45 : decode cX6_keepRow 45 = .ok (.iaload, 1) := by decide +kernel
theorem dX6_keepRow_46 : decode cX6_keepRow 46 = .ok (.bipush 8, 2) := by decide +kernel
theorem dX6_keepRow_48 : decode cX6_keepRow 48 = .ok (.idiv, 1) := by decide +kernel
theorem dX6_keepRow_49 : decode cX6_keepRow 49 = .ok (.istore_n 3, 1) := by decide +kernel
theorem dX6_keepRow_50 : decode cX6_keepRow 50 = .ok (.goto (-43), 3) := by decide +kernel
theorem dX6_keepRow_53 : decode cX6_keepRow 53 = .ok (.return_, 1) := by decide +kernel
set_option maxRecDepth 20000 in
theorem ggX6_goOn_X6_goTo : GoodIn wsX6_goOn wsX6_goTo := goodIn_r _ [7, 1, 8, 2, 39, 40, 41, 42, 43, 44, 45, 46, 47, 48, 49, 50, 51, 52, 53, 54, 55, 56, 57, 58, 59, 60, 61, 62, 63, 64, 65, 66, 67, 68] (by decide +kernel) (by decide +kernel)
set_option maxRecDepth 20000 in
theorem gX6_goOn_X6_goTo : GoodIn wsX6_goOn (wsV RX6 194 RX6 yX6_goTo wsX6_goTo) := goodIn_app (goodIn_of _ (by decide +kernel)) ggX6_goOn_X6_goTo
set_option maxRecDepth 20000 in
theorem ggX6_goOn_X6_does : GoodIn wsX6_goOn wsX6_does := goodIn_r _ [12, 1, 8, 13, 14, 15, 6, 16, 17, 18, 19, 20, 21, 22, 23, 24, 25, 26, 27, 39, 40, 41, 42, 43, 44, 45, 46, 47, 48, 49, 50, 51, 52, 53, 54, 55, 56, 57, 58, 59, 60, 61, 62, 63, 64, 65, 66, 67, 68] (by decide +kernel) (by decide +kernel)
set_option maxRecDepth 20000 in
theorem gX6_goOn_X6_does : GoodIn wsX6_goOn (wsV RX6 154 RX6 yX6_does wsX6_does) := goodIn_app (goodIn_of _ (by decide +kernel)) ggX6_goOn_X6_does
set_option maxRecDepth 20000 in
theorem ggX6_goOn_X6_comeTo : GoodIn wsX6_goOn wsX6_comeTo := goodIn_r _ [31, 32, 33, 34, 35, 36, 37, 6, 38, 2, 1, 8, 39, 40, 41, 42, 43, 44, 45, 46, 47, 48, 49, 50, 51, 52, 53, 54, 55, 56, 57, 58, 59, 60, 61, 62, 63, 64, 65, 66, 67, 68] (by decide +kernel) (by decide +kernel)
set_option maxRecDepth 20000 in
theorem gX6_goOn_X6_comeTo : GoodIn wsX6_goOn (wsV RX6 198 RX6 yX6_comeTo wsX6_comeTo) := goodIn_app (goodIn_of _ (by decide +kernel)) ggX6_goOn_X6_comeTo
theorem dX6_goOn_0 : decode cX6_goOn 0 = .ok (.iconst 0, 1) := by decide +kernel
theorem dX6_goOn_1 : decode cX6_goOn 1 = .ok (.istore_n 2, 1) := by decide +kernel
theorem dX6_goOn_2 : decode cX6_goOn 2 = .ok (.iload_n 2, 1) := by decide +kernel
theorem dX6_goOn_3 : decode cX6_goOn 3 = .ok (.aload_n 0, 1) := by decide +kernel
theorem dX6_goOn_4 : decode cX6_goOn 4 = .ok (.getfield 73, 3) := by decide +kernel
theorem dX6_goOn_7 : decode cX6_goOn 7 = .ok (.if_icmp .ge 62, 3) := by decide +kernel
theorem dX6_goOn_10 : decode cX6_goOn 10 = .ok (.aload_n 0, 1) := by decide +kernel
theorem dX6_goOn_11 : decode cX6_goOn 11 = .ok (.iload_n 1, 1) := by decide +kernel
theorem dX6_goOn_12 : decode cX6_goOn 12 = .ok (.invokevirtual 194, 3) := by decide +kernel
theorem dX6_goOn_15 : decode cX6_goOn 15 = .ok (.aload_n 0, 1) := by decide +kernel
theorem dX6_goOn_16 : decode cX6_goOn 16 = .ok (.getfield 182, 3) := by decide +kernel
theorem dX6_goOn_19 : decode cX6_goOn 19 = .ok (.istore_n 3, 1) := by decide +kernel
theorem dX6_goOn_20 : decode cX6_goOn 20 = .ok (.aload_n 0, 1) := by decide +kernel
theorem dX6_goOn_21 : decode cX6_goOn 21 = .ok (.iload_n 2, 1) := by decide +kernel
theorem dX6_goOn_22 : decode cX6_goOn 22 = .ok (.invokevirtual 154, 3) := by decide +kernel
theorem dX6_goOn_25 : decode cX6_goOn 25 = .ok (.ifCond .eq 38, 3) := by decide +kernel
theorem dX6_goOn_28 : decode cX6_goOn 28 = .ok (.aload_n 0, 1) := by decide +kernel
theorem dX6_goOn_29 : decode cX6_goOn 29 = .ok (.dup, 1) := by decide +kernel
theorem dX6_goOn_30 : decode cX6_goOn 30 = .ok (.getfield 182, 3) := by decide +kernel
theorem dX6_goOn_33 : decode cX6_goOn 33 = .ok (.iload_n 2, 1) := by decide +kernel
theorem dX6_goOn_34 : decode cX6_goOn 34 = .ok (.aload_n 0, 1) := by decide +kernel
theorem dX6_goOn_35 : decode cX6_goOn 35 = .ok (.getfield 73, 3) := by decide +kernel
theorem dX6_goOn_38 : decode cX6_goOn 38 = .ok (.iconst 1, 1) := by decide +kernel
theorem dX6_goOn_39 : decode cX6_goOn 39 = .ok (.isub, 1) := by decide +kernel
theorem dX6_goOn_40 : decode cX6_goOn 40 = .ok (.if_icmp .ge 12, 3) := by decide +kernel
theorem dX6_goOn_43 : decode cX6_goOn 43 = .ok (.iload_n 2, 1) := by decide +kernel
theorem dX6_goOn_44 : decode cX6_goOn 44 = .ok (.iload_n 3, 1) := by decide +kernel
theorem dX6_goOn_45 : decode cX6_goOn 45 = .ok (.if_icmp .ne 7, 3) := by decide +kernel
theorem dX6_goOn_48 : decode cX6_goOn 48 = .ok (.iconst 1, 1) := by decide +kernel
theorem dX6_goOn_49 : decode cX6_goOn 49 = .ok (.goto 4, 3) := by decide +kernel
theorem dX6_goOn_52 : decode cX6_goOn 52 = .ok (.iconst 0, 1) := by decide +kernel
theorem dX6_goOn_53 : decode cX6_goOn 53 = .ok (.iadd, 1) := by decide +kernel
theorem dX6_goOn_54 : decode cX6_goOn 54 = .ok (.putfield 182, 3) := by decide +kernel
theorem dX6_goOn_57 : decode cX6_goOn 57 = .ok (.aload_n 0, 1) := by decide +kernel
theorem dX6_goOn_58 : decode cX6_goOn 58 = .ok (.iload_n 1, 1) := by decide +kernel
theorem dX6_goOn_59 : decode cX6_goOn 59 = .ok (.iload_n 2, 1) := by decide +kernel
theorem dX6_goOn_60 : decode cX6_goOn 60 = .ok (.invokevirtual 198, 3) := by decide +kernel
theorem dX6_goOn_63 : decode cX6_goOn 63 = .ok (.iinc 2 1, 3) := by decide +kernel
theorem dX6_goOn_66 : decode cX6_goOn 66 = .ok (.goto (-64), 3) := by decide +kernel
theorem dX6_goOn_69 : decode cX6_goOn 69 = .ok (.return_, 1) := by decide +kernel
set_option maxRecDepth 20000 in
theorem ggX6_fewest_X6_begin : GoodIn wsX6_fewest wsX6_begin := goodIn_r _ [10, 11, 12, 13, 59, 60, 61, 62, 63, 64, 65, 66, 67, 68, 69, 70, 71, 72, 73, 74, 75, 76, 77, 78, 79, 80, 81, 82, 83, 84, 85, 86, 87, 88] (by decide +kernel) (by decide +kernel)
set_option maxRecDepth 20000 in
theorem gX6_fewest_X6_begin : GoodIn wsX6_fewest (wsV RX6 147 RX6 yX6_begin wsX6_begin) := goodIn_app (goodIn_of _ (by decide +kernel)) ggX6_fewest_X6_begin
set_option maxRecDepth 20000 in
theorem ggX6_fewest_X6_wayNow : GoodIn wsX6_fewest wsX6_wayNow := goodIn_r _ [17, 3, 11, 12, 59, 60, 61, 62, 63, 64, 65, 66, 67, 68, 69, 70, 71, 72, 73, 74, 75, 76, 77, 78, 79, 80, 81, 82, 83, 84, 85, 86, 87, 88] (by decide +kernel) (by decide +kernel)
set_option maxRecDepth 20000 in
theorem gX6_fewest_X6_wayNow : GoodIn wsX6_fewest (wsV RX6 185 RX6 yX6_wayNow wsX6_wayNow) := goodIn_app (goodIn_of _ (by decide +kernel)) ggX6_fewest_X6_wayNow
set_option maxRecDepth 20000 in
theorem ggX6_fewest_X6_comeTo : GoodIn wsX6_fewest wsX6_comeTo := goodIn_r _ [21, 2, 5, 4, 14, 15, 16, 9, 17, 3, 11, 12, 59, 60, 61, 62, 63, 64, 65, 66, 67, 68, 69, 70, 71, 72, 73, 74, 75, 76, 77, 78, 79, 80, 81, 82, 83, 84, 85, 86, 87, 88] (by decide +kernel) (by decide +kernel)
set_option maxRecDepth 20000 in
theorem gX6_fewest_X6_comeTo : GoodIn wsX6_fewest (wsV RX6 198 RX6 yX6_comeTo wsX6_comeTo) := goodIn_app (goodIn_of _ (by decide +kernel)) ggX6_fewest_X6_comeTo
set_option maxRecDepth 20000 in
theorem ggX6_fewest_X6_goTo : GoodIn wsX6_fewest wsX6_goTo := goodIn_r _ [25, 11, 12, 3, 59, 60, 61, 62, 63, 64, 65, 66, 67, 68, 69, 70, 71, 72, 73, 74, 75, 76, 77, 78, 79, 80, 81, 82, 83, 84, 85, 86, 87, 88] (by decide +kernel) (by decide +kernel)
set_option maxRecDepth 20000 in
theorem gX6_fewest_X6_goTo : GoodIn wsX6_fewest (wsV RX6 194 RX6 yX6_goTo wsX6_goTo) := goodIn_app (goodIn_of _ (by decide +kernel)) ggX6_fewest_X6_goTo
set_option maxRecDepth 20000 in
theorem ggX6_fewest_X6_isThere : GoodIn wsX6_fewest wsX6_isThere := goodIn_r _ [29, 3, 12, 59, 60, 61, 62, 63, 64, 65, 66, 67, 68, 69, 70, 71, 72, 73, 74, 75, 76, 77, 78, 79, 80, 81, 82, 83, 84, 85, 86, 87, 88] (by decide +kernel) (by decide +kernel)
set_option maxRecDepth 20000 in
theorem gX6_fewest_X6_isThere : GoodIn wsX6_fewest (wsV RX6 201 RX6 yX6_isThere wsX6_isThere) := goodIn_app (goodIn_of _ (by decide +kernel)) ggX6_fewest_X6_isThere
set_option maxRecDepth 20000 in
theorem ggX6_fewest_X6_keepRow : GoodIn wsX6_fewest wsX6_keepRow := goodIn_r _ [33, 34, 35, 2, 59, 60, 61, 62, 63, 64, 65, 66, 67, 68, 69, 70, 71, 72, 73, 74, 75, 76, 77, 78, 79, 80, 81, 82, 83, 84, 85, 86, 87, 88] (by decide +kernel) (by decide +kernel)
set_option maxRecDepth 20000 in
theorem gX6_fewest_X6_keepRow : GoodIn wsX6_fewest (wsV RX6 204 RX6 yX6_keepRow wsX6_keepRow) := goodIn_app (goodIn_of _ (by decide +kernel)) ggX6_fewest_X6_keepRow
set_option maxRecDepth 20000 in
theorem ggX6_fewest_X6_goOn : GoodIn wsX6_fewest wsX6_goOn := goodIn_r _ [39, 11, 3, 22, 23, 24, 9, 25, 12, 40, 41, 42, 43, 44, 45, 46, 47, 48, 49, 50, 51, 52, 53, 54, 55, 56, 57, 58, 18, 19, 20, 21, 2, 5, 4, 14, 15, 16, 17, 59, 60, 61, 62, 63, 64, 65, 66, 67, 68, 69, 70, 71, 72, 73, 74, 75, 76, 77, 78, 79, 80, 81, 82, 83, 84, 85, 86, 87, 88] (by decide +kernel) (by decide +kernel)
set_option maxRecDepth 20000 in
theorem gX6_fewest_X6_goOn : GoodIn wsX6_fewest (wsV RX6 207 RX6 yX6_goOn wsX6_goOn) := goodIn_app (goodIn_of _ (by decide +kernel)) ggX6_fewest_X6_goOn
theorem dX6_fewest_0 : decode cX6_fewest 0 = .ok (.iconst 0, 1) := by decide +kernel
theorem dX6_fewest_1 : decode cX6_fewest 1 = .ok (.istore 4, 2) := by decide +kernel
theorem dX6_fewest_3 : decode cX6_fewest 3 = .ok (.iload 4, 2) := by decide +kernel
theorem dX6_fewest_5 : decode cX6_fewest 5 = .ok (.ldc 31, 2) := by decide +kernel
theorem dX6_fewest_7 : decode cX6_fewest 7 = .ok (.if_icmp .ge 18, 3) := by decide +kernel
theorem dX6_fewest_10 : decode cX6_fewest 10 = .ok (.aload_n 0, 1) := by decide +kernel
theorem dX6_fewest_11 : decode cX6_fewest 11 = .ok (.getfield 32, 3) := by decide +kernel
theorem dX6_fewest_14 : decode cX6_fewest 14 = .ok (.iload 4, 2) := by decide +kernel
theorem dX6_fewest_16 : decode cX6_fewest 16 = .ok (.bipush (-9), 2) := by decide +kernel
theorem dX6_fewest_18 : decode cX6_fewest 18 = .ok (.iastore, 1) := by decide +kernel
theorem dX6_fewest_19 : decode cX6_fewest 19 = .ok (.iinc 4 1, 3) := by decide +kernel
theorem dX6_fewest_22 : decode cX6_fewest 22 = .ok (.goto (-19), 3) := by decide +kernel
theorem dX6_fewest_25 : decode cX6_fewest 25 = .ok (.aload_n 0, 1) := by decide +kernel
theorem dX6_fewest_26 : decode cX6_fewest 26 = .ok (.invokevirtual 147, 3) := by decide +kernel
theorem dX6_fewest_29 : decode cX6_fewest 29 = .ok (.aload_n 0, 1) := by decide +kernel
theorem dX6_fewest_30 : decode cX6_fewest 30 = .ok (.iload_n 1, 1) := by decide +kernel
theorem dX6_fewest_31 : decode cX6_fewest 31 = .ok (.putfield 182, 3) := by decide +kernel
theorem dX6_fewest_34 : decode cX6_fewest 34 = .ok (.aload_n 0, 1) := by decide +kernel
theorem dX6_fewest_35 : decode cX6_fewest 35 = .ok (.iconst 0, 1) := by decide +kernel
theorem dX6_fewest_36 : decode cX6_fewest 36 = .ok (.putfield 188, 3) := by decide +kernel
theorem dX6_fewest_39 : decode cX6_fewest 39 = .ok (.aload_n 0, 1) := by decide +kernel
theorem dX6_fewest_40 : decode cX6_fewest 40 = .ok (.invokevirtual 185, 3) := by decide +kernel
theorem dX6_fewest_43 : decode cX6_fewest 43 = .ok (.istore 4, 2) := by decide +kernel
theorem dX6_fewest_45 : decode cX6_fewest 45 = .ok (.aload_n 0, 1) := by decide +kernel
theorem dX6_fewest_46 : decode cX6_fewest 46 = .ok (.iload 4, 2) := by decide +kernel
theorem dX6_fewest_48 : decode cX6_fewest 48 = .ok (.iconst 0, 1) := by decide +kernel
theorem dX6_fewest_49 : decode cX6_fewest 49 = .ok (.invokevirtual 198, 3) := by decide +kernel
theorem dX6_fewest_52 : decode cX6_fewest 52 = .ok (.iconst 0, 1) := by decide +kernel
theorem dX6_fewest_53 : decode cX6_fewest 53 = .ok (.istore 5, 2) := by decide +kernel
theorem dX6_fewest_55 : decode cX6_fewest 55 = .ok (.iconst 0, 1) := by decide +kernel
theorem dX6_fewest_56 : decode cX6_fewest 56 = .ok (.istore 6, 2) := by decide +kernel
theorem dX6_fewest_58 : decode cX6_fewest 58 = .ok (.iload 6, 2) := by decide +kernel
theorem dX6_fewest_60 : decode cX6_fewest 60 = .ok (.bipush 40, 2) := by decide +kernel
theorem dX6_fewest_62 : decode cX6_fewest 62 = .ok (.if_icmp .gt 69, 3) := by decide +kernel
theorem dX6_fewest_65 : decode cX6_fewest 65 = .ok (.aload_n 0, 1) := by decide +kernel
theorem dX6_fewest_66 : decode cX6_fewest 66 = .ok (.getfield 188, 3) := by decide +kernel
theorem dX6_fewest_69 : decode cX6_fewest 69 = .ok (.istore 7, 2) := by decide +kernel
theorem dX6_fewest_71 : decode cX6_fewest 71 = .ok (.iload 5, 2) := by decide +kernel
theorem dX6_fewest_73 : decode cX6_fewest 73 = .ok (.iload 7, 2) := by decide +kernel
theorem dX6_fewest_75 : decode cX6_fewest 75 = .ok (.if_icmp .ge 50, 3) := by decide +kernel
theorem dX6_fewest_78 : decode cX6_fewest 78 = .ok (.aload_n 0, 1) := by decide +kernel
theorem dX6_fewest_79 : decode cX6_fewest 79 = .ok (.getfield 35, 3) := by decide +kernel
theorem dX6_fewest_82 : decode cX6_fewest 82 = .ok (.iload 5, 2) := by decide +kernel
theorem dX6_fewest_84 : decode cX6_fewest 84 = .ok (.iaload, 1) := by decide +kernel
theorem dX6_fewest_85 : decode cX6_fewest 85 = .ok (.istore 8, 2) := by decide +kernel
theorem dX6_fewest_87 : decode cX6_fewest 87 = .ok (.aload_n 0, 1) := by decide +kernel
theorem dX6_fewest_88 : decode cX6_fewest 88 = .ok (.iload 8, 2) := by decide +kernel
theorem dX6_fewest_90 : decode cX6_fewest 90 = .ok (.invokevirtual 194, 3) := by decide +kernel
theorem dX6_fewest_93 : decode cX6_fewest 93 = .ok (.aload_n 0, 1) := by decide +kernel
theorem dX6_fewest_94 : decode cX6_fewest 94 = .ok (.iload_n 2, 1) := by decide +kernel
theorem dX6_fewest_95 : decode cX6_fewest 95 = .ok (.iload_n 3, 1) := by decide +kernel
theorem dX6_fewest_96 : decode cX6_fewest 96 = .ok (.invokevirtual 201, 3) := by decide +kernel
theorem dX6_fewest_99 : decode cX6_fewest 99 = .ok (.ifCond .eq 14, 3) := by decide +kernel
theorem dX6_fewest_102 : decode cX6_fewest 102 = .ok (.aload_n 0, 1) := by decide +kernel
theorem dX6_fewest_103 : decode cX6_fewest 103 = .ok (.iload 4, 2) := by decide +kernel
theorem dX6_fewest_105 : decode cX6_fewest 105 = .ok (.iload 8, 2) := by decide +kernel
theorem dX6_fewest_107 : decode cX6_fewest 107 = .ok (.invokevirtual 204, 3) := by decide +kernel
theorem dX6_fewest_110 : decode cX6_fewest 110 = .ok (.iload 6, 2) := by decide +kernel
theorem dX6_fewest_112 : decode cX6_fewest 112 = .ok (.ireturn, 1) := by decide +kernel
theorem dX6_fewest_113 : decode cX6_fewest 113 = .ok (.iinc 5 1, 3) := by decide +kernel
theorem dX6_fewest_116 : decode cX6_fewest 116 = .ok (.aload_n 0, 1) := by decide +kernel
theorem dX6_fewest_117 : decode cX6_fewest 117 = .ok (.iload 8, 2) := by decide +kernel
theorem dX6_fewest_119 : decode cX6_fewest 119 = .ok (.invokevirtual 207, 3) := by decide +kernel
theorem dX6_fewest_122 : decode cX6_fewest 122 = .ok (.goto (-51), 3) := by decide +kernel
theorem dX6_fewest_125 : decode cX6_fewest 125 = .ok (.iinc 6 1, 3) := by decide +kernel
theorem dX6_fewest_128 : decode cX6_fewest 128 = .ok (.goto (-70), 3) := by decide +kernel
theorem dX6_fewest_131 : decode cX6_fewest 131 = .ok (.bipush (-9), 2) := by decide +kernel
theorem dX6_fewest_133 : decode cX6_fewest 133 = .ok (.ireturn, 1) := by decide +kernel
theorem dX6_actOf_0 : decode cX6_actOf 0 = .ok (.iload_n 2, 1) := by decide +kernel
theorem dX6_actOf_1 : decode cX6_actOf 1 = .ok (.ifCond .ge 7, 3) := by decide +kernel
theorem dX6_actOf_4 : decode cX6_actOf 4 = .ok (.iload_n 1, 1) := by decide +kernel
theorem dX6_actOf_5 : decode cX6_actOf 5 = .ok (.goto 23, 3) := by decide +kernel
theorem dX6_actOf_8 : decode cX6_actOf 8 = .ok (.iload_n 2, 1) := by decide +kernel
theorem dX6_actOf_9 : decode cX6_actOf 9 = .ok (.iload_n 1, 1) := by decide +kernel
theorem dX6_actOf_10 : decode cX6_actOf 10 = .ok (.if_icmp .ge 16, 3) := by decide +kernel
theorem dX6_actOf_13 : decode cX6_actOf 13 = .ok (.aload_n 0, 1) := by decide +kernel
theorem dX6_actOf_14 : decode cX6_actOf 14 = .ok (.getfield 38, 3) := by decide +kernel
theorem dX6_actOf_17 : decode cX6_actOf 17 = .ok (.iload_n 1, 1) := by decide +kernel
theorem dX6_actOf_18 : decode cX6_actOf 18 = .ok (.iconst 1, 1) := by decide +kernel
theorem dX6_actOf_19 : decode cX6_actOf 19 = .ok (.isub, 1) := by decide +kernel
theorem dX6_actOf_20 : decode cX6_actOf 20 = .ok (.iload_n 2, 1) := by decide +kernel
theorem dX6_actOf_21 : decode cX6_actOf 21 = .ok (.isub, 1) := by decide +kernel
theorem dX6_actOf_22 : decode cX6_actOf 22 = .ok (.iaload, 1) := by decide +kernel
theorem dX6_actOf_23 : decode cX6_actOf 23 = .ok (.goto 5, 3) := by decide +kernel
theorem dX6_actOf_26 : decode cX6_actOf 26 = .ok (.bipush (-9), 2) := by decide +kernel
theorem dX6_actOf_28 : decode cX6_actOf 28 = .ok (.ireturn, 1) := by decide +kernel
set_option maxRecDepth 20000 in
theorem ggX6_boat_X6_noReach : GoodIn wsX6_boat wsX6_noReach := goodIn_r _ [7, 8, 9, 10, 6, 11, 76, 77, 78, 79, 80, 81, 82, 83, 84, 85, 86, 87, 88, 89, 90, 91, 92, 93, 94, 95, 96, 97, 98, 99, 100, 101, 102, 103, 104, 105] (by decide +kernel) (by decide +kernel)
set_option maxRecDepth 20000 in
theorem gX6_boat_X6_noReach : GoodIn wsX6_boat (wsV RX6 131 RX6 yX6_noReach wsX6_noReach) := goodIn_app (goodIn_of _ (by decide +kernel)) ggX6_boat_X6_noReach
set_option maxRecDepth 20000 in
theorem ggX6_boat_X6_in : GoodIn wsX6_boat wsX6_in := goodIn_r _ [11] (by decide +kernel) (by decide +kernel)
set_option maxRecDepth 20000 in
theorem gX6_boat_X6_in : GoodIn wsX6_boat (va_wsS RX6 76 yX6_in wsX6_in) := goodIn_app (goodIn_of _ (by decide +kernel)) ggX6_boat_X6_in
set_option maxRecDepth 20000 in
theorem ggX6_boat_X6_fewest : GoodIn wsX6_boat wsX6_fewest := goodIn_r _ [15, 16, 17, 18, 19, 20, 21, 22, 23, 6, 24, 8, 25, 26, 27, 28, 29, 30, 31, 32, 33, 34, 35, 36, 37, 38, 39, 40, 41, 42, 43, 44, 45, 46, 47, 48, 49, 50, 51, 52, 53, 54, 55, 56, 57, 58, 59, 60, 61, 62, 63, 64, 65, 66, 67, 68, 69, 70, 71, 76, 77, 78, 79, 80, 81, 82, 83, 84, 85, 86, 87, 88, 89, 90, 91, 92, 93, 94, 95, 96, 97, 98, 99, 100, 101, 102, 103, 104, 105] (by decide +kernel) (by decide +kernel)
set_option maxRecDepth 20000 in
theorem gX6_boat_X6_fewest : GoodIn wsX6_boat (wsV RX6 214 RX6 yX6_fewest wsX6_fewest) := goodIn_app (goodIn_of _ (by decide +kernel)) ggX6_boat_X6_fewest
set_option maxRecDepth 20000 in
theorem ggX6_boat_X6_actOf : GoodIn wsX6_boat wsX6_actOf := goodIn_r _ [75, 48, 76, 77, 78, 79, 80, 81, 82, 83, 84, 85, 86, 87, 88, 89, 90, 91, 92, 93, 94, 95, 96, 97, 98, 99, 100, 101, 102, 103, 104, 105] (by decide +kernel) (by decide +kernel)
set_option maxRecDepth 20000 in
theorem gX6_boat_X6_actOf : GoodIn wsX6_boat (wsV RX6 217 RX6 yX6_actOf wsX6_actOf) := goodIn_app (goodIn_of _ (by decide +kernel)) ggX6_boat_X6_actOf
theorem dX6_boat_0 : decode cX6_boat 0 = .ok (.aload_n 0, 1) := by decide +kernel
theorem dX6_boat_1 : decode cX6_boat 1 = .ok (.iload_n 1, 1) := by decide +kernel
theorem dX6_boat_2 : decode cX6_boat 2 = .ok (.invokevirtual 131, 3) := by decide +kernel
theorem dX6_boat_5 : decode cX6_boat 5 = .ok (.ifCond .ne 11, 3) := by decide +kernel
theorem dX6_boat_8 : decode cX6_boat 8 = .ok (.aload_n 0, 1) := by decide +kernel
theorem dX6_boat_9 : decode cX6_boat 9 = .ok (.iload_n 2, 1) := by decide +kernel
theorem dX6_boat_10 : decode cX6_boat 10 = .ok (.invokevirtual 131, 3) := by decide +kernel
theorem dX6_boat_13 : decode cX6_boat 13 = .ok (.ifCond .eq 5, 3) := by decide +kernel
theorem dX6_boat_16 : decode cX6_boat 16 = .ok (.iconst (-1), 1) := by decide +kernel
theorem dX6_boat_17 : decode cX6_boat 17 = .ok (.ireturn, 1) := by decide +kernel
theorem dX6_boat_18 : decode cX6_boat 18 = .ok (.iload_n 2, 1) := by decide +kernel
theorem dX6_boat_19 : decode cX6_boat 19 = .ok (.iload_n 1, 1) := by decide +kernel
theorem dX6_boat_20 : decode cX6_boat 20 = .ok (.if_icmp .gt 6, 3) := by decide +kernel
theorem dX6_boat_23 : decode cX6_boat 23 = .ok (.bipush (-3), 2) := by decide +kernel
theorem dX6_boat_25 : decode cX6_boat 25 = .ok (.ireturn, 1) := by decide +kernel
theorem dX6_boat_26 : decode cX6_boat 26 = .ok (.iload_n 3, 1) := by decide +kernel
theorem dX6_boat_27 : decode cX6_boat 27 = .ok (.i2l, 1) := by decide +kernel
theorem dX6_boat_28 : decode cX6_boat 28 = .ok (.ldc2_w 210, 3) := by decide +kernel
theorem dX6_boat_31 : decode cX6_boat 31 = .ok (.ldc2_w 212, 3) := by decide +kernel
theorem dX6_boat_34 : decode cX6_boat 34 = .ok (.invokestatic 76, 3) := by decide +kernel
theorem dX6_boat_37 : decode cX6_boat 37 = .ok (.ifCond .eq 19, 3) := by decide +kernel
theorem dX6_boat_40 : decode cX6_boat 40 = .ok (.aload_n 0, 1) := by decide +kernel
theorem dX6_boat_41 : decode cX6_boat 41 = .ok (.aload_n 0, 1) := by decide +kernel
theorem dX6_boat_42 : decode cX6_boat 42 = .ok (.iload_n 1, 1) := by decide +kernel
theorem dX6_boat_43 : decode cX6_boat 43 = .ok (.iload_n 2, 1) := by decide +kernel
theorem dX6_boat_44 : decode cX6_boat 44 = .ok (.bipush (-9), 2) := by decide +kernel
theorem dX6_boat_46 : decode cX6_boat 46 = .ok (.invokevirtual 214, 3) := by decide +kernel
theorem dX6_boat_49 : decode cX6_boat 49 = .ok (.iload_n 3, 1) := by decide +kernel
theorem dX6_boat_50 : decode cX6_boat 50 = .ok (.invokevirtual 217, 3) := by decide +kernel
theorem dX6_boat_53 : decode cX6_boat 53 = .ok (.goto 5, 3) := by decide +kernel
theorem dX6_boat_56 : decode cX6_boat 56 = .ok (.bipush (-2), 2) := by decide +kernel
theorem dX6_boat_58 : decode cX6_boat 58 = .ok (.ireturn, 1) := by decide +kernel
set_option maxRecDepth 20000 in
theorem ggX6_raise_X6_noReach : GoodIn wsX6_raise wsX6_noReach := goodIn_r _ [8, 9, 10, 11, 7, 12, 77, 78, 79, 80, 81, 82, 83, 84, 85, 86, 87, 88, 89, 90, 91, 92, 93, 94, 95, 96, 97, 98, 99, 100, 101, 102, 103, 104, 105, 106] (by decide +kernel) (by decide +kernel)
set_option maxRecDepth 20000 in
theorem gX6_raise_X6_noReach : GoodIn wsX6_raise (wsV RX6 131 RX6 yX6_noReach wsX6_noReach) := goodIn_app (goodIn_of _ (by decide +kernel)) ggX6_raise_X6_noReach
set_option maxRecDepth 20000 in
theorem ggX6_raise_X6_in : GoodIn wsX6_raise wsX6_in := goodIn_r _ [12] (by decide +kernel) (by decide +kernel)
set_option maxRecDepth 20000 in
theorem gX6_raise_X6_in : GoodIn wsX6_raise (va_wsS RX6 76 yX6_in wsX6_in) := goodIn_app (goodIn_of _ (by decide +kernel)) ggX6_raise_X6_in
set_option maxRecDepth 20000 in
theorem ggX6_raise_X6_fewest : GoodIn wsX6_raise wsX6_fewest := goodIn_r _ [16, 17, 18, 19, 20, 21, 22, 23, 24, 7, 25, 9, 26, 27, 28, 29, 30, 31, 32, 33, 34, 35, 36, 37, 38, 39, 40, 41, 42, 43, 44, 45, 46, 47, 48, 49, 50, 51, 52, 53, 54, 55, 56, 57, 58, 59, 60, 61, 62, 63, 64, 65, 66, 67, 68, 69, 70, 71, 72, 77, 78, 79, 80, 81, 82, 83, 84, 85, 86, 87, 88, 89, 90, 91, 92, 93, 94, 95, 96, 97, 98, 99, 100, 101, 102, 103, 104, 105, 106] (by decide +kernel) (by decide +kernel)
set_option maxRecDepth 20000 in
theorem gX6_raise_X6_fewest : GoodIn wsX6_raise (wsV RX6 214 RX6 yX6_fewest wsX6_fewest) := goodIn_app (goodIn_of _ (by decide +kernel)) ggX6_raise_X6_fewest
set_option maxRecDepth 20000 in
theorem ggX6_raise_X6_actOf : GoodIn wsX6_raise wsX6_actOf := goodIn_r _ [76, 49, 77, 78, 79, 80, 81, 82, 83, 84, 85, 86, 87, 88, 89, 90, 91, 92, 93, 94, 95, 96, 97, 98, 99, 100, 101, 102, 103, 104, 105, 106] (by decide +kernel) (by decide +kernel)
set_option maxRecDepth 20000 in
theorem gX6_raise_X6_actOf : GoodIn wsX6_raise (wsV RX6 217 RX6 yX6_actOf wsX6_actOf) := goodIn_app (goodIn_of _ (by decide +kernel)) ggX6_raise_X6_actOf
theorem dX6_raise_0 : decode cX6_raise 0 = .ok (.aload_n 0, 1) := by decide +kernel
theorem dX6_raise_1 : decode cX6_raise 1 = .ok (.iload_n 1, 1) := by decide +kernel
theorem dX6_raise_2 : decode cX6_raise 2 = .ok (.invokevirtual 131, 3) := by decide +kernel
theorem dX6_raise_5 : decode cX6_raise 5 = .ok (.ifCond .eq 5, 3) := by decide +kernel
theorem dX6_raise_8 : decode cX6_raise 8 = .ok (.iconst (-1), 1) := by decide +kernel
theorem dX6_raise_9 : decode cX6_raise 9 = .ok (.ireturn, 1) := by decide +kernel
theorem dX6_raise_10 : decode cX6_raise 10 = .ok (.iload_n 2, 1) := by decide +kernel
theorem dX6_raise_11 : decode cX6_raise 11 = .ok (.i2l, 1) := by decide +kernel
theorem dX6_raise_12 : decode cX6_raise 12 = .ok (.lconst 0, 1) := by decide +kernel
theorem dX6_raise_13 : decode cX6_raise 13 = .ok (.ldc2_w 137, 3) := by decide +kernel
theorem dX6_raise_16 : decode cX6_raise 16 = .ok (.invokestatic 76, 3) := by decide +kernel
theorem dX6_raise_19 : decode cX6_raise 19 = .ok (.ifCond .eq 32, 3) := by decide +kernel
theorem dX6_raise_22 : decode cX6_raise 22 = .ok (.iload_n 3, 1) := by decide +kernel
theorem dX6_raise_23 : decode cX6_raise 23 = .ok (.i2l, 1) := by decide +kernel
theorem dX6_raise_24 : decode cX6_raise 24 = .ok (.ldc2_w 210, 3) := by decide +kernel
theorem dX6_raise_27 : decode cX6_raise 27 = .ok (.ldc2_w 212, 3) := by decide +kernel
theorem dX6_raise_30 : decode cX6_raise 30 = .ok (.invokestatic 76, 3) := by decide +kernel
theorem dX6_raise_33 : decode cX6_raise 33 = .ok (.ifCond .eq 18, 3) := by decide +kernel
theorem dX6_raise_36 : decode cX6_raise 36 = .ok (.aload_n 0, 1) := by decide +kernel
theorem dX6_raise_37 : decode cX6_raise 37 = .ok (.aload_n 0, 1) := by decide +kernel
theorem dX6_raise_38 : decode cX6_raise 38 = .ok (.iconst 3, 1) := by decide +kernel
theorem dX6_raise_39 : decode cX6_raise 39 = .ok (.iload_n 1, 1) := by decide +kernel
theorem dX6_raise_40 : decode cX6_raise 40 = .ok (.iload_n 2, 1) := by decide +kernel
theorem dX6_raise_41 : decode cX6_raise 41 = .ok (.invokevirtual 214, 3) := by decide +kernel
theorem dX6_raise_44 : decode cX6_raise 44 = .ok (.iload_n 3, 1) := by decide +kernel
theorem dX6_raise_45 : decode cX6_raise 45 = .ok (.invokevirtual 217, 3) := by decide +kernel
theorem dX6_raise_48 : decode cX6_raise 48 = .ok (.goto 5, 3) := by decide +kernel
theorem dX6_raise_51 : decode cX6_raise 51 = .ok (.bipush (-2), 2) := by decide +kernel
theorem dX6_raise_53 : decode cX6_raise 53 = .ok (.ireturn, 1) := by decide +kernel
set_option maxRecDepth 20000 in
theorem ggX6_reading_X6_noReach : GoodIn wsX6_reading wsX6_noReach := goodIn_r _ [10, 11, 12, 13, 9, 14, 15, 16, 17, 18, 19, 20, 21, 22, 23, 24, 25, 26, 27, 28, 29, 30, 31, 32, 33, 34, 35, 36, 37, 38, 39, 40, 41, 42, 43, 44] (by decide +kernel) (by decide +kernel)
set_option maxRecDepth 20000 in
theorem gX6_reading_X6_noReach : GoodIn wsX6_reading (wsV RX6 131 RX6 yX6_noReach wsX6_noReach) := goodIn_app (goodIn_of _ (by decide +kernel)) ggX6_reading_X6_noReach
set_option maxRecDepth 20000 in
theorem ggX6_reading_X6_in : GoodIn wsX6_reading wsX6_in := goodIn_r _ [14] (by decide +kernel) (by decide +kernel)
set_option maxRecDepth 20000 in
theorem gX6_reading_X6_in : GoodIn wsX6_reading (va_wsS RX6 76 yX6_in wsX6_in) := goodIn_app (goodIn_of _ (by decide +kernel)) ggX6_reading_X6_in
theorem dX6_reading_0 : decode cX6_reading 0 = .ok (.aload_n 0, 1) := by decide +kernel
theorem dX6_reading_1 : decode cX6_reading 1 = .ok (.iload_n 1, 1) := by decide +kernel
theorem dX6_reading_2 : decode cX6_reading 2 = .ok (.invokevirtual 131, 3) := by decide +kernel
theorem dX6_reading_5 : decode cX6_reading 5 = .ok (.ifCond .eq 5, 3) := by decide +kernel
theorem dX6_reading_8 : decode cX6_reading 8 = .ok (.iconst (-1), 1) := by decide +kernel
theorem dX6_reading_9 : decode cX6_reading 9 = .ok (.ireturn, 1) := by decide +kernel
theorem dX6_reading_10 : decode cX6_reading 10 = .ok (.iload_n 2, 1) := by decide +kernel
theorem dX6_reading_11 : decode cX6_reading 11 = .ok (.bipush (-9), 2) := by decide +kernel
theorem dX6_reading_13 : decode cX6_reading 13 = .ok (.if_icmp .eq 18, 3) := by decide +kernel
theorem dX6_reading_16 : decode cX6_reading 16 = .ok (.iload_n 2, 1) := by decide +kernel
theorem dX6_reading_17 : decode cX6_reading 17 = .ok (.i2l, 1) := by decide +kernel
theorem dX6_reading_18 : decode cX6_reading 18 = .ok (.lconst 0, 1) := by decide +kernel
theorem dX6_reading_19 : decode cX6_reading 19 = .ok (.ldc2_w 137, 3) := by decide +kernel
theorem dX6_reading_22 : decode cX6_reading 22 = .ok (.invokestatic 76, 3) := by decide +kernel
theorem dX6_reading_25 : decode cX6_reading 25 = .ok (.ifCond .ne 6, 3) := by decide +kernel
theorem dX6_reading_28 : decode cX6_reading 28 = .ok (.bipush (-2), 2) := by decide +kernel
theorem dX6_reading_30 : decode cX6_reading 30 = .ok (.ireturn, 1) := by decide +kernel
theorem dX6_reading_31 : decode cX6_reading 31 = .ok (.aload_n 0, 1) := by decide +kernel
theorem dX6_reading_32 : decode cX6_reading 32 = .ok (.getfield 128, 3) := by decide +kernel
theorem dX6_reading_35 : decode cX6_reading 35 = .ok (.bipush 8, 2) := by decide +kernel
theorem dX6_reading_37 : decode cX6_reading 37 = .ok (.if_icmp .ne 6, 3) := by decide +kernel
theorem dX6_reading_40 : decode cX6_reading 40 = .ok (.bipush (-4), 2) := by decide +kernel
theorem dX6_reading_42 : decode cX6_reading 42 = .ok (.ireturn, 1) := by decide +kernel
theorem dX6_reading_43 : decode cX6_reading 43 = .ok (.aload_n 0, 1) := by decide +kernel
theorem dX6_reading_44 : decode cX6_reading 44 = .ok (.getfield 41, 3) := by decide +kernel
theorem dX6_reading_47 : decode cX6_reading 47 = .ok (.aload_n 0, 1) := by decide +kernel
theorem dX6_reading_48 : decode cX6_reading 48 = .ok (.getfield 128, 3) := by decide +kernel
theorem dX6_reading_51 : decode cX6_reading 51 = .ok (.iload_n 1, 1) := by decide +kernel
theorem dX6_reading_52 : decode cX6_reading 52 = .ok (.iastore, 1) := by decide +kernel
theorem dX6_reading_53 : decode cX6_reading 53 = .ok (.aload_n 0, 1) := by decide +kernel
theorem dX6_reading_54 : decode cX6_reading 54 = .ok (.getfield 44, 3) := by decide +kernel
theorem dX6_reading_57 : decode cX6_reading 57 = .ok (.aload_n 0, 1) := by decide +kernel
theorem dX6_reading_58 : decode cX6_reading 58 = .ok (.getfield 128, 3) := by decide +kernel
theorem dX6_reading_61 : decode cX6_reading 61 = .ok (.iload_n 2, 1) := by decide +kernel
theorem dX6_reading_62 : decode cX6_reading 62 = .ok (.iastore, 1) := by decide +kernel
theorem dX6_reading_63 : decode cX6_reading 63 = .ok (.aload_n 0, 1) := by decide +kernel
theorem dX6_reading_64 : decode cX6_reading 64 = .ok (.getfield 47, 3) := by decide +kernel
theorem dX6_reading_67 : decode cX6_reading 67 = .ok (.aload_n 0, 1) := by decide +kernel
theorem dX6_reading_68 : decode cX6_reading 68 = .ok (.getfield 128, 3) := by decide +kernel
theorem dX6_reading_71 : decode cX6_reading 71 = .ok (.iload_n 3, 1) := by decide +kernel
theorem dX6_reading_72 : decode cX6_reading 72 = .ok (.bastore, 1) := by decide +kernel
theorem dX6_reading_73 : decode cX6_reading 73 = .ok (.aload_n 0, 1) := by decide +kernel
theorem dX6_reading_74 : decode cX6_reading 74 = .ok (.dup, 1) := by decide +kernel
theorem dX6_reading_75 : decode cX6_reading 75 = .ok (.getfield 128, 3) := by decide +kernel
theorem dX6_reading_78 : decode cX6_reading 78 = .ok (.iconst 1, 1) := by decide +kernel
theorem dX6_reading_79 : decode cX6_reading 79 = .ok (.iadd, 1) := by decide +kernel
theorem dX6_reading_80 : decode cX6_reading 80 = .ok (.putfield 128, 3) := by decide +kernel
theorem dX6_reading_83 : decode cX6_reading 83 = .ok (.aload_n 0, 1) := by decide +kernel
theorem dX6_reading_84 : decode cX6_reading 84 = .ok (.getfield 128, 3) := by decide +kernel
theorem dX6_reading_87 : decode cX6_reading 87 = .ok (.iconst 1, 1) := by decide +kernel
theorem dX6_reading_88 : decode cX6_reading 88 = .ok (.isub, 1) := by decide +kernel
theorem dX6_reading_89 : decode cX6_reading 89 = .ok (.ireturn, 1) := by decide +kernel
set_option maxRecDepth 20000 in
theorem ggX6_back_X6_in : GoodIn wsX6_back wsX6_in := goodIn_r _ [5] (by decide +kernel) (by decide +kernel)
set_option maxRecDepth 20000 in
theorem gX6_back_X6_in : GoodIn wsX6_back (va_wsS RX6 76 yX6_in wsX6_in) := goodIn_app (goodIn_of _ (by decide +kernel)) ggX6_back_X6_in
theorem dX6_back_0 : decode cX6_back 0 = .ok (.iload_n 1, 1) := by decide +kernel
theorem dX6_back_1 : decode cX6_back 1 = .ok (.i2l, 1) := by decide +kernel
theorem dX6_back_2 : decode cX6_back 2 = .ok (.lconst 0, 1) := by decide +kernel
theorem dX6_back_3 : decode cX6_back 3 = .ok (.aload_n 0, 1) := by decide +kernel
theorem dX6_back_4 : decode cX6_back 4 = .ok (.getfield 128, 3) := by decide +kernel
theorem dX6_back_7 : decode cX6_back 7 = .ok (.i2l, 1) := by decide +kernel
theorem dX6_back_8 : decode cX6_back 8 = .ok (.invokestatic 76, 3) := by decide +kernel
theorem dX6_back_11 : decode cX6_back 11 = .ok (.ifCond .ne 6, 3) := by decide +kernel
theorem dX6_back_14 : decode cX6_back 14 = .ok (.bipush (-2), 2) := by decide +kernel
theorem dX6_back_16 : decode cX6_back 16 = .ok (.ireturn, 1) := by decide +kernel
theorem dX6_back_17 : decode cX6_back 17 = .ok (.aload_n 0, 1) := by decide +kernel
theorem dX6_back_18 : decode cX6_back 18 = .ok (.dup, 1) := by decide +kernel
theorem dX6_back_19 : decode cX6_back 19 = .ok (.getfield 128, 3) := by decide +kernel
theorem dX6_back_22 : decode cX6_back 22 = .ok (.iload_n 1, 1) := by decide +kernel
theorem dX6_back_23 : decode cX6_back 23 = .ok (.isub, 1) := by decide +kernel
theorem dX6_back_24 : decode cX6_back 24 = .ok (.putfield 128, 3) := by decide +kernel
theorem dX6_back_27 : decode cX6_back 27 = .ok (.aload_n 0, 1) := by decide +kernel
theorem dX6_back_28 : decode cX6_back 28 = .ok (.getfield 128, 3) := by decide +kernel
theorem dX6_back_31 : decode cX6_back 31 = .ok (.ireturn, 1) := by decide +kernel
set_option maxRecDepth 20000 in
theorem ggX6_areSo_X6_wantOf : GoodIn wsX6_areSo wsX6_wantOf := goodIn_r _ [10, 11, 12, 13, 14, 15, 16, 17, 18, 19, 20, 21, 22, 23, 24, 25, 26, 27, 28, 29, 30, 31, 32, 33, 34, 35, 36, 37, 38, 39, 40, 41, 42] (by decide +kernel) (by decide +kernel)
set_option maxRecDepth 20000 in
theorem gX6_areSo_X6_wantOf : GoodIn wsX6_areSo (wsV RX6 134 RX6 yX6_wantOf wsX6_wantOf) := goodIn_app (goodIn_of _ (by decide +kernel)) ggX6_areSo_X6_wantOf
theorem dX6_areSo_0 : decode cX6_areSo 0 = .ok (.iconst 1, 1) := by decide +kernel
theorem dX6_areSo_1 : decode cX6_areSo 1 = .ok (.istore_n 1, 1) := by decide +kernel
theorem dX6_areSo_2 : decode cX6_areSo 2 = .ok (.iconst 0, 1) := by decide +kernel
theorem dX6_areSo_3 : decode cX6_areSo 3 = .ok (.istore_n 2, 1) := by decide +kernel
theorem dX6_areSo_4 : decode cX6_areSo 4 = .ok (.iload_n 2, 1) := by decide +kernel
theorem dX6_areSo_5 : decode cX6_areSo 5 = .ok (.aload_n 0, 1) := by decide +kernel
theorem dX6_areSo_6 : decode cX6_areSo 6 = .ok (.getfield 128, 3) := by decide +kernel
theorem dX6_areSo_9 : decode cX6_areSo 9 = .ok (.if_icmp .ge 76, 3) := by decide +kernel
theorem dX6_areSo_12 : decode cX6_areSo 12 = .ok (.aload_n 0, 1) := by decide +kernel
theorem dX6_areSo_13 : decode cX6_areSo 13 = .ok (.getfield 41, 3) := by decide +kernel
theorem dX6_areSo_16 : decode cX6_areSo 16 = .ok (.iload_n 2, 1) := by decide +kernel
theorem dX6_areSo_17 : decode cX6_areSo 17 = .ok (.iaload, 1) := by decide +kernel
theorem dX6_areSo_18 : decode cX6_areSo 18 = .ok (.istore_n 3, 1) := by decide +kernel
theorem dX6_areSo_19 : decode cX6_areSo 19 = .ok (.aload_n 0, 1) := by decide +kernel
theorem dX6_areSo_20 : decode cX6_areSo 20 = .ok (.getfield 44, 3) := by decide +kernel
theorem dX6_areSo_23 : decode cX6_areSo 23 = .ok (.iload_n 2, 1) := by decide +kernel
theorem dX6_areSo_24 : decode cX6_areSo 24 = .ok (.iaload, 1) := by decide +kernel
theorem dX6_areSo_25 : decode cX6_areSo 25 = .ok (.ifCond .ge 12, 3) := by decide +kernel
theorem dX6_areSo_28 : decode cX6_areSo 28 = .ok (.aload_n 0, 1) := by decide +kernel
theorem dX6_areSo_29 : decode cX6_areSo 29 = .ok (.getfield 13, 3) := by decide +kernel
theorem dX6_areSo_32 : decode cX6_areSo 32 = .ok (.iload_n 3, 1) := by decide +kernel
theorem dX6_areSo_33 : decode cX6_areSo 33 = .ok (.iaload, 1) := by decide +kernel
theorem dX6_areSo_34 : decode cX6_areSo 34 = .ok (.goto 9, 3) := by decide +kernel
theorem dX6_areSo_37 : decode cX6_areSo 37 = .ok (.aload_n 0, 1) := by decide +kernel
theorem dX6_areSo_38 : decode cX6_areSo 38 = .ok (.getfield 44, 3) := by decide +kernel
theorem dX6_areSo_41 : decode cX6_areSo 41 = .ok (.iload_n 2, 1) := by decide +kernel
theorem dX6_areSo_42 : decode cX6_areSo 42 = .ok (.iaload, 1) := by decide +kernel
theorem dX6_areSo_43 : decode cX6_areSo 43 = .ok (.istore 4, 2) := by decide +kernel
theorem dX6_areSo_45 : decode cX6_areSo 45 = .ok (.iload_n 1, 1) := by decide +kernel
theorem dX6_areSo_46 : decode cX6_areSo 46 = .ok (.ifCond .eq 31, 3) := by decide +kernel
theorem dX6_areSo_49 : decode cX6_areSo 49 = .ok (.iload 4, 2) := by decide +kernel
theorem dX6_areSo_51 : decode cX6_areSo 51 = .ok (.aload_n 0, 1) := by decide +kernel
theorem dX6_areSo_52 : decode cX6_areSo 52 = .ok (.iload_n 3, 1) := by decide +kernel
theorem dX6_areSo_53 : decode cX6_areSo 53 = .ok (.invokevirtual 134, 3) := by decide +kernel
theorem dX6_areSo_56 : decode cX6_areSo 56 = .ok (.if_icmp .ge 7, 3) := by decide +kernel
theorem dX6_areSo_59 : decode cX6_areSo 59 = .ok (.iconst 1, 1) := by decide +kernel
theorem dX6_areSo_60 : decode cX6_areSo 60 = .ok (.goto 4, 3) := by decide +kernel
theorem dX6_areSo_63 : decode cX6_areSo 63 = .ok (.iconst 0, 1) := by decide +kernel
theorem dX6_areSo_64 : decode cX6_areSo 64 = .ok (.aload_n 0, 1) := by decide +kernel
theorem dX6_areSo_65 : decode cX6_areSo 65 = .ok (.getfield 47, 3) := by decide +kernel
theorem dX6_areSo_68 : decode cX6_areSo 68 = .ok (.iload_n 2, 1) := by decide +kernel
theorem dX6_areSo_69 : decode cX6_areSo 69 = .ok (.baload, 1) := by decide +kernel
theorem dX6_areSo_70 : decode cX6_areSo 70 = .ok (.if_icmp .ne 7, 3) := by decide +kernel
theorem dX6_areSo_73 : decode cX6_areSo 73 = .ok (.iconst 1, 1) := by decide +kernel
theorem dX6_areSo_74 : decode cX6_areSo 74 = .ok (.goto 4, 3) := by decide +kernel
theorem dX6_areSo_77 : decode cX6_areSo 77 = .ok (.iconst 0, 1) := by decide +kernel
theorem dX6_areSo_78 : decode cX6_areSo 78 = .ok (.istore_n 1, 1) := by decide +kernel
theorem dX6_areSo_79 : decode cX6_areSo 79 = .ok (.iinc 2 1, 3) := by decide +kernel
theorem dX6_areSo_82 : decode cX6_areSo 82 = .ok (.goto (-78), 3) := by decide +kernel
theorem dX6_areSo_85 : decode cX6_areSo 85 = .ok (.iload_n 1, 1) := by decide +kernel
theorem dX6_areSo_86 : decode cX6_areSo 86 = .ok (.ireturn, 1) := by decide +kernel
set_option maxRecDepth 20000 in
theorem ggX6_limits_X6_noReach : GoodIn wsX6_limits wsX6_noReach := goodIn_r _ [6, 7, 8, 9, 5, 10, 25, 26, 27, 28, 29, 30, 31, 32, 33, 34, 35, 36, 37, 38, 39, 40, 41, 42, 43, 44, 45, 46, 47, 48, 49, 50, 51, 52, 53, 54] (by decide +kernel) (by decide +kernel)
set_option maxRecDepth 20000 in
theorem gX6_limits_X6_noReach : GoodIn wsX6_limits (wsV RX6 131 RX6 yX6_noReach wsX6_noReach) := goodIn_app (goodIn_of _ (by decide +kernel)) ggX6_limits_X6_noReach
set_option maxRecDepth 20000 in
theorem ggX6_limits_X6_areSo : GoodIn wsX6_limits wsX6_areSo := goodIn_r _ [14, 15, 16, 17, 18, 19, 20, 21, 22, 5, 23, 1, 24, 25, 26, 27, 28, 29, 30, 31, 32, 33, 34, 35, 36, 37, 38, 39, 40, 41, 42, 43, 44, 45, 46, 47, 48, 49, 50, 51, 52, 53, 54] (by decide +kernel) (by decide +kernel)
set_option maxRecDepth 20000 in
theorem gX6_limits_X6_areSo : GoodIn wsX6_limits (wsV RX6 220 RX6 yX6_areSo wsX6_areSo) := goodIn_app (goodIn_of _ (by decide +kernel)) ggX6_limits_X6_areSo
theorem dX6_limits_0 : decode cX6_limits 0 = .ok (.aload_n 0, 1) := by decide +kernel
theorem dX6_limits_1 : decode cX6_limits 1 = .ok (.iload_n 1, 1) := by decide +kernel
theorem dX6_limits_2 : decode cX6_limits 2 = .ok (.invokevirtual 131, 3) := by decide +kernel
theorem dX6_limits_5 : decode cX6_limits 5 = .ok (.ifCond .eq 5, 3) := by decide +kernel
theorem dX6_limits_8 : decode cX6_limits 8 = .ok (.iconst (-1), 1) := by decide +kernel
theorem dX6_limits_9 : decode cX6_limits 9 = .ok (.ireturn, 1) := by decide +kernel
theorem dX6_limits_10 : decode cX6_limits 10 = .ok (.aload_n 0, 1) := by decide +kernel
theorem dX6_limits_11 : decode cX6_limits 11 = .ok (.getfield 16, 3) := by decide +kernel
theorem dX6_limits_14 : decode cX6_limits 14 = .ok (.iload_n 1, 1) := by decide +kernel
theorem dX6_limits_15 : decode cX6_limits 15 = .ok (.iaload, 1) := by decide +kernel
theorem dX6_limits_16 : decode cX6_limits 16 = .ok (.istore_n 2, 1) := by decide +kernel
theorem dX6_limits_17 : decode cX6_limits 17 = .ok (.iconst 0, 1) := by decide +kernel
theorem dX6_limits_18 : decode cX6_limits 18 = .ok (.istore_n 3, 1) := by decide +kernel
theorem dX6_limits_19 : decode cX6_limits 19 = .ok (.iconst 0, 1) := by decide +kernel
theorem dX6_limits_20 : decode cX6_limits 20 = .ok (.istore 4, 2) := by decide +kernel
theorem dX6_limits_22 : decode cX6_limits 22 = .ok (.iload 4, 2) := by decide +kernel
theorem dX6_limits_24 : decode cX6_limits 24 = .ok (.bipush 10, 2) := by decide +kernel
theorem dX6_limits_26 : decode cX6_limits 26 = .ok (.if_icmp .ge 35, 3) := by decide +kernel
theorem dX6_limits_29 : decode cX6_limits 29 = .ok (.aload_n 0, 1) := by decide +kernel
theorem dX6_limits_30 : decode cX6_limits 30 = .ok (.getfield 16, 3) := by decide +kernel
theorem dX6_limits_33 : decode cX6_limits 33 = .ok (.iload_n 1, 1) := by decide +kernel
theorem dX6_limits_34 : decode cX6_limits 34 = .ok (.iload 4, 2) := by decide +kernel
theorem dX6_limits_36 : decode cX6_limits 36 = .ok (.iastore, 1) := by decide +kernel
theorem dX6_limits_37 : decode cX6_limits 37 = .ok (.iload_n 3, 1) := by decide +kernel
theorem dX6_limits_38 : decode cX6_limits 38 = .ok (.aload_n 0, 1) := by decide +kernel
theorem dX6_limits_39 : decode cX6_limits 39 = .ok (.invokevirtual 220, 3) := by decide +kernel
theorem dX6_limits_42 : decode cX6_limits 42 = .ok (.ifCond .eq 10, 3) := by decide +kernel
theorem dX6_limits_45 : decode cX6_limits 45 = .ok (.iconst 1, 1) := by decide +kernel
theorem dX6_limits_46 : decode cX6_limits 46 = .ok (.iload 4, 2) := by decide +kernel
theorem dX6_limits_48 : decode cX6_limits 48 = .ok (.ishl, 1) := by decide +kernel
theorem dX6_limits_49 : decode cX6_limits 49 = .ok (.goto 4, 3) := by decide +kernel
theorem dX6_limits_52 : decode cX6_limits 52 = .ok (.iconst 0, 1) := by decide +kernel
theorem dX6_limits_53 : decode cX6_limits 53 = .ok (.ior, 1) := by decide +kernel
theorem dX6_limits_54 : decode cX6_limits 54 = .ok (.istore_n 3, 1) := by decide +kernel
theorem dX6_limits_55 : decode cX6_limits 55 = .ok (.iinc 4 1, 3) := by decide +kernel
theorem dX6_limits_58 : decode cX6_limits 58 = .ok (.goto (-36), 3) := by decide +kernel
theorem dX6_limits_61 : decode cX6_limits 61 = .ok (.aload_n 0, 1) := by decide +kernel
theorem dX6_limits_62 : decode cX6_limits 62 = .ok (.getfield 16, 3) := by decide +kernel
theorem dX6_limits_65 : decode cX6_limits 65 = .ok (.iload_n 1, 1) := by decide +kernel
theorem dX6_limits_66 : decode cX6_limits 66 = .ok (.iload_n 2, 1) := by decide +kernel
theorem dX6_limits_67 : decode cX6_limits 67 = .ok (.iastore, 1) := by decide +kernel
theorem dX6_limits_68 : decode cX6_limits 68 = .ok (.iload_n 3, 1) := by decide +kernel
theorem dX6_limits_69 : decode cX6_limits 69 = .ok (.ireturn, 1) := by decide +kernel
set_option maxRecDepth 20000 in
theorem ggX6_kinds_X6_noReach : GoodIn wsX6_kinds wsX6_noReach := goodIn_r _ [6, 7, 8, 9, 5, 10, 25, 26, 27, 28, 29, 30, 31, 32, 33, 34, 35, 36, 37, 38, 39, 40, 41, 42, 43, 44, 45, 46, 47, 48, 49, 50, 51, 52, 53, 54] (by decide +kernel) (by decide +kernel)
set_option maxRecDepth 20000 in
theorem gX6_kinds_X6_noReach : GoodIn wsX6_kinds (wsV RX6 131 RX6 yX6_noReach wsX6_noReach) := goodIn_app (goodIn_of _ (by decide +kernel)) ggX6_kinds_X6_noReach
set_option maxRecDepth 20000 in
theorem ggX6_kinds_X6_areSo : GoodIn wsX6_kinds wsX6_areSo := goodIn_r _ [14, 15, 16, 17, 18, 19, 20, 21, 22, 5, 23, 24, 1, 25, 26, 27, 28, 29, 30, 31, 32, 33, 34, 35, 36, 37, 38, 39, 40, 41, 42, 43, 44, 45, 46, 47, 48, 49, 50, 51, 52, 53, 54] (by decide +kernel) (by decide +kernel)
set_option maxRecDepth 20000 in
theorem gX6_kinds_X6_areSo : GoodIn wsX6_kinds (wsV RX6 220 RX6 yX6_areSo wsX6_areSo) := goodIn_app (goodIn_of _ (by decide +kernel)) ggX6_kinds_X6_areSo
theorem dX6_kinds_0 : decode cX6_kinds 0 = .ok (.aload_n 0, 1) := by decide +kernel
theorem dX6_kinds_1 : decode cX6_kinds 1 = .ok (.iload_n 1, 1) := by decide +kernel
theorem dX6_kinds_2 : decode cX6_kinds 2 = .ok (.invokevirtual 131, 3) := by decide +kernel
theorem dX6_kinds_5 : decode cX6_kinds 5 = .ok (.ifCond .eq 5, 3) := by decide +kernel
theorem dX6_kinds_8 : decode cX6_kinds 8 = .ok (.iconst (-1), 1) := by decide +kernel
theorem dX6_kinds_9 : decode cX6_kinds 9 = .ok (.ireturn, 1) := by decide +kernel
theorem dX6_kinds_10 : decode cX6_kinds 10 = .ok (.aload_n 0, 1) := by decide +kernel
theorem dX6_kinds_11 : decode cX6_kinds 11 = .ok (.getfield 7, 3) := by decide +kernel
theorem dX6_kinds_14 : decode cX6_kinds 14 = .ok (.iload_n 1, 1) := by decide +kernel
theorem dX6_kinds_15 : decode cX6_kinds 15 = .ok (.iaload, 1) := by decide +kernel
theorem dX6_kinds_16 : decode cX6_kinds 16 = .ok (.istore_n 2, 1) := by decide +kernel
theorem dX6_kinds_17 : decode cX6_kinds 17 = .ok (.iconst 0, 1) := by decide +kernel
theorem dX6_kinds_18 : decode cX6_kinds 18 = .ok (.istore_n 3, 1) := by decide +kernel
theorem dX6_kinds_19 : decode cX6_kinds 19 = .ok (.iconst 0, 1) := by decide +kernel
theorem dX6_kinds_20 : decode cX6_kinds 20 = .ok (.istore 4, 2) := by decide +kernel
theorem dX6_kinds_22 : decode cX6_kinds 22 = .ok (.iload 4, 2) := by decide +kernel
theorem dX6_kinds_24 : decode cX6_kinds 24 = .ok (.iconst 3, 1) := by decide +kernel
theorem dX6_kinds_25 : decode cX6_kinds 25 = .ok (.if_icmp .ge 35, 3) := by decide +kernel
theorem dX6_kinds_28 : decode cX6_kinds 28 = .ok (.aload_n 0, 1) := by decide +kernel
theorem dX6_kinds_29 : decode cX6_kinds 29 = .ok (.getfield 7, 3) := by decide +kernel
theorem dX6_kinds_32 : decode cX6_kinds 32 = .ok (.iload_n 1, 1) := by decide +kernel
theorem dX6_kinds_33 : decode cX6_kinds 33 = .ok (.iload 4, 2) := by decide +kernel
theorem dX6_kinds_35 : decode cX6_kinds 35 = .ok (.iastore, 1) := by decide +kernel
theorem dX6_kinds_36 : decode cX6_kinds 36 = .ok (.iload_n 3, 1) := by decide +kernel
theorem dX6_kinds_37 : decode cX6_kinds 37 = .ok (.aload_n 0, 1) := by decide +kernel
theorem dX6_kinds_38 : decode cX6_kinds 38 = .ok (.invokevirtual 220, 3) := by decide +kernel
theorem dX6_kinds_41 : decode cX6_kinds 41 = .ok (.ifCond .eq 10, 3) := by decide +kernel
theorem dX6_kinds_44 : decode cX6_kinds 44 = .ok (.iconst 1, 1) := by decide +kernel
theorem dX6_kinds_45 : decode cX6_kinds 45 = .ok (.iload 4, 2) := by decide +kernel
theorem dX6_kinds_47 : decode cX6_kinds 47 = .ok (.ishl, 1) := by decide +kernel
theorem dX6_kinds_48 : decode cX6_kinds 48 = .ok (.goto 4, 3) := by decide +kernel
theorem dX6_kinds_51 : decode cX6_kinds 51 = .ok (.iconst 0, 1) := by decide +kernel
theorem dX6_kinds_52 : decode cX6_kinds 52 = .ok (.ior, 1) := by decide +kernel
theorem dX6_kinds_53 : decode cX6_kinds 53 = .ok (.istore_n 3, 1) := by decide +kernel
theorem dX6_kinds_54 : decode cX6_kinds 54 = .ok (.iinc 4 1, 3) := by decide +kernel
theorem dX6_kinds_57 : decode cX6_kinds 57 = .ok (.goto (-35), 3) := by decide +kernel
theorem dX6_kinds_60 : decode cX6_kinds 60 = .ok (.aload_n 0, 1) := by decide +kernel
theorem dX6_kinds_61 : decode cX6_kinds 61 = .ok (.getfield 7, 3) := by decide +kernel
theorem dX6_kinds_64 : decode cX6_kinds 64 = .ok (.iload_n 1, 1) := by decide +kernel
theorem dX6_kinds_65 : decode cX6_kinds 65 = .ok (.iload_n 2, 1) := by decide +kernel
theorem dX6_kinds_66 : decode cX6_kinds 66 = .ok (.iastore, 1) := by decide +kernel
theorem dX6_kinds_67 : decode cX6_kinds 67 = .ok (.iload_n 3, 1) := by decide +kernel
theorem dX6_kinds_68 : decode cX6_kinds 68 = .ok (.ireturn, 1) := by decide +kernel
set_option maxRecDepth 20000 in
theorem ggX6_levels_X6_noReach : GoodIn wsX6_levels wsX6_noReach := goodIn_r _ [6, 7, 8, 9, 5, 10, 25, 26, 27, 28, 29, 30, 31, 32, 33, 34, 35, 36, 37, 38, 39, 40, 41, 42, 43, 44, 45, 46, 47, 48, 49, 50, 51, 52, 53, 54] (by decide +kernel) (by decide +kernel)
set_option maxRecDepth 20000 in
theorem gX6_levels_X6_noReach : GoodIn wsX6_levels (wsV RX6 131 RX6 yX6_noReach wsX6_noReach) := goodIn_app (goodIn_of _ (by decide +kernel)) ggX6_levels_X6_noReach
set_option maxRecDepth 20000 in
theorem ggX6_levels_X6_areSo : GoodIn wsX6_levels wsX6_areSo := goodIn_r _ [14, 15, 16, 17, 1, 18, 19, 20, 21, 5, 22, 23, 24, 25, 26, 27, 28, 29, 30, 31, 32, 33, 34, 35, 36, 37, 38, 39, 40, 41, 42, 43, 44, 45, 46, 47, 48, 49, 50, 51, 52, 53, 54] (by decide +kernel) (by decide +kernel)
set_option maxRecDepth 20000 in
theorem gX6_levels_X6_areSo : GoodIn wsX6_levels (wsV RX6 220 RX6 yX6_areSo wsX6_areSo) := goodIn_app (goodIn_of _ (by decide +kernel)) ggX6_levels_X6_areSo
theorem dX6_levels_0 : decode cX6_levels 0 = .ok (.aload_n 0, 1) := by decide +kernel
theorem dX6_levels_1 : decode cX6_levels 1 = .ok (.iload_n 1, 1) := by decide +kernel
theorem dX6_levels_2 : decode cX6_levels 2 = .ok (.invokevirtual 131, 3) := by decide +kernel
theorem dX6_levels_5 : decode cX6_levels 5 = .ok (.ifCond .eq 5, 3) := by decide +kernel
theorem dX6_levels_8 : decode cX6_levels 8 = .ok (.iconst (-1), 1) := by decide +kernel
theorem dX6_levels_9 : decode cX6_levels 9 = .ok (.ireturn, 1) := by decide +kernel
theorem dX6_levels_10 : decode cX6_levels 10 = .ok (.aload_n 0, 1) := by decide +kernel
theorem dX6_levels_11 : decode cX6_levels 11 = .ok (.getfield 13, 3) := by decide +kernel
theorem dX6_levels_14 : decode cX6_levels 14 = .ok (.iload_n 1, 1) := by decide +kernel
theorem dX6_levels_15 : decode cX6_levels 15 = .ok (.iaload, 1) := by decide +kernel
theorem dX6_levels_16 : decode cX6_levels 16 = .ok (.istore_n 2, 1) := by decide +kernel
theorem dX6_levels_17 : decode cX6_levels 17 = .ok (.iconst 0, 1) := by decide +kernel
theorem dX6_levels_18 : decode cX6_levels 18 = .ok (.istore_n 3, 1) := by decide +kernel
theorem dX6_levels_19 : decode cX6_levels 19 = .ok (.iconst 0, 1) := by decide +kernel
theorem dX6_levels_20 : decode cX6_levels 20 = .ok (.istore 4, 2) := by decide +kernel
theorem dX6_levels_22 : decode cX6_levels 22 = .ok (.iload 4, 2) := by decide +kernel
theorem dX6_levels_24 : decode cX6_levels 24 = .ok (.bipush 10, 2) := by decide +kernel
theorem dX6_levels_26 : decode cX6_levels 26 = .ok (.if_icmp .ge 35, 3) := by decide +kernel
theorem dX6_levels_29 : decode cX6_levels 29 = .ok (.aload_n 0, 1) := by decide +kernel
theorem dX6_levels_30 : decode cX6_levels 30 = .ok (.getfield 13, 3) := by decide +kernel
theorem dX6_levels_33 : decode cX6_levels 33 = .ok (.iload_n 1, 1) := by decide +kernel
theorem dX6_levels_34 : decode cX6_levels 34 = .ok (.iload 4, 2) := by decide +kernel
theorem dX6_levels_36 : decode cX6_levels 36 = .ok (.iastore, 1) := by decide +kernel
theorem dX6_levels_37 : decode cX6_levels 37 = .ok (.iload_n 3, 1) := by decide +kernel
theorem dX6_levels_38 : decode cX6_levels 38 = .ok (.aload_n 0, 1) := by decide +kernel
theorem dX6_levels_39 : decode cX6_levels 39 = .ok (.invokevirtual 220, 3) := by decide +kernel
theorem dX6_levels_42 : decode cX6_levels 42 = .ok (.ifCond .eq 10, 3) := by decide +kernel
theorem dX6_levels_45 : decode cX6_levels 45 = .ok (.iconst 1, 1) := by decide +kernel
theorem dX6_levels_46 : decode cX6_levels 46 = .ok (.iload 4, 2) := by decide +kernel
theorem dX6_levels_48 : decode cX6_levels 48 = .ok (.ishl, 1) := by decide +kernel
theorem dX6_levels_49 : decode cX6_levels 49 = .ok (.goto 4, 3) := by decide +kernel
theorem dX6_levels_52 : decode cX6_levels 52 = .ok (.iconst 0, 1) := by decide +kernel
theorem dX6_levels_53 : decode cX6_levels 53 = .ok (.ior, 1) := by decide +kernel
theorem dX6_levels_54 : decode cX6_levels 54 = .ok (.istore_n 3, 1) := by decide +kernel
theorem dX6_levels_55 : decode cX6_levels 55 = .ok (.iinc 4 1, 3) := by decide +kernel
theorem dX6_levels_58 : decode cX6_levels 58 = .ok (.goto (-36), 3) := by decide +kernel
theorem dX6_levels_61 : decode cX6_levels 61 = .ok (.aload_n 0, 1) := by decide +kernel
theorem dX6_levels_62 : decode cX6_levels 62 = .ok (.getfield 13, 3) := by decide +kernel
theorem dX6_levels_65 : decode cX6_levels 65 = .ok (.iload_n 1, 1) := by decide +kernel
theorem dX6_levels_66 : decode cX6_levels 66 = .ok (.iload_n 2, 1) := by decide +kernel
theorem dX6_levels_67 : decode cX6_levels 67 = .ok (.iastore, 1) := by decide +kernel
theorem dX6_levels_68 : decode cX6_levels 68 = .ok (.iload_n 3, 1) := by decide +kernel
theorem dX6_levels_69 : decode cX6_levels 69 = .ok (.ireturn, 1) := by decide +kernel
set_option maxRecDepth 20000 in
theorem ggX6_odds_X6_in : GoodIn wsX6_odds wsX6_in := goodIn_r _ [9] (by decide +kernel) (by decide +kernel)
set_option maxRecDepth 20000 in
theorem gX6_odds_X6_in : GoodIn wsX6_odds (va_wsS RX6 76 yX6_in wsX6_in) := goodIn_app (goodIn_of _ (by decide +kernel)) ggX6_odds_X6_in
set_option maxRecDepth 20000 in
theorem ggX6_odds_X6_lost : GoodIn wsX6_odds wsX6_lost := goodIn_r _ [12, 13] (by decide +kernel) (by decide +kernel)
set_option maxRecDepth 20000 in
theorem gX6_odds_X6_lost : GoodIn wsX6_odds (va_wsS RX6 69 yX6_lost wsX6_lost) := goodIn_app (goodIn_of _ (by decide +kernel)) ggX6_odds_X6_lost
set_option maxRecDepth 20000 in
theorem ggX6_odds_X6_share : GoodIn wsX6_odds wsX6_share := goodIn_r _ [16] (by decide +kernel) (by decide +kernel)
set_option maxRecDepth 20000 in
theorem gX6_odds_X6_share : GoodIn wsX6_odds (va_wsS RX6 226 yX6_share wsX6_share) := goodIn_app (goodIn_of _ (by decide +kernel)) ggX6_odds_X6_share
theorem dX6_odds_0 : decode cX6_odds 0 = .ok (.aload_n 0, 1) := by decide +kernel
theorem dX6_odds_1 : decode cX6_odds 1 = .ok (.getfield 73, 3) := by decide +kernel
theorem dX6_odds_4 : decode cX6_odds 4 = .ok (.ifCond .eq 37, 3) := by decide +kernel
theorem dX6_odds_7 : decode cX6_odds 7 = .ok (.iload_n 1, 1) := by decide +kernel
theorem dX6_odds_8 : decode cX6_odds 8 = .ok (.i2l, 1) := by decide +kernel
theorem dX6_odds_9 : decode cX6_odds 9 = .ok (.lconst 0, 1) := by decide +kernel
theorem dX6_odds_10 : decode cX6_odds 10 = .ok (.ldc2_w 224, 3) := by decide +kernel
theorem dX6_odds_13 : decode cX6_odds 13 = .ok (.invokestatic 76, 3) := by decide +kernel
theorem dX6_odds_16 : decode cX6_odds 16 = .ok (.ifCond .eq 25, 3) := by decide +kernel
theorem dX6_odds_19 : decode cX6_odds 19 = .ok (.iload_n 2, 1) := by decide +kernel
theorem dX6_odds_20 : decode cX6_odds 20 = .ok (.i2l, 1) := by decide +kernel
theorem dX6_odds_21 : decode cX6_odds 21 = .ok (.lconst 0, 1) := by decide +kernel
theorem dX6_odds_22 : decode cX6_odds 22 = .ok (.ldc2_w 137, 3) := by decide +kernel
theorem dX6_odds_25 : decode cX6_odds 25 = .ok (.invokestatic 76, 3) := by decide +kernel
theorem dX6_odds_28 : decode cX6_odds 28 = .ok (.ifCond .eq 13, 3) := by decide +kernel
theorem dX6_odds_31 : decode cX6_odds 31 = .ok (.iload_n 3, 1) := by decide +kernel
theorem dX6_odds_32 : decode cX6_odds 32 = .ok (.i2l, 1) := by decide +kernel
theorem dX6_odds_33 : decode cX6_odds 33 = .ok (.lconst 0, 1) := by decide +kernel
theorem dX6_odds_34 : decode cX6_odds 34 = .ok (.lconst 1, 1) := by decide +kernel
theorem dX6_odds_35 : decode cX6_odds 35 = .ok (.invokestatic 76, 3) := by decide +kernel
theorem dX6_odds_38 : decode cX6_odds 38 = .ok (.ifCond .ne 7, 3) := by decide +kernel
theorem dX6_odds_41 : decode cX6_odds 41 = .ok (.invokestatic 69, 3) := by decide +kernel
theorem dX6_odds_44 : decode cX6_odds 44 = .ok (.lreturn, 1) := by decide +kernel
theorem dX6_odds_45 : decode cX6_odds 45 = .ok (.lconst 0, 1) := by decide +kernel
theorem dX6_odds_46 : decode cX6_odds 46 = .ok (.lstore 4, 2) := by decide +kernel
theorem dX6_odds_48 : decode cX6_odds 48 = .ok (.iconst 0, 1) := by decide +kernel
theorem dX6_odds_49 : decode cX6_odds 49 = .ok (.istore 6, 2) := by decide +kernel
theorem dX6_odds_51 : decode cX6_odds 51 = .ok (.iload 6, 2) := by decide +kernel
theorem dX6_odds_53 : decode cX6_odds 53 = .ok (.iconst 1, 1) := by decide +kernel
theorem dX6_odds_54 : decode cX6_odds 54 = .ok (.iload_n 1, 1) := by decide +kernel
theorem dX6_odds_55 : decode cX6_odds 55 = .ok (.ishl, 1) := by decide +kernel
theorem dX6_odds_56 : decode cX6_odds 56 = .ok (.if_icmp .ge 81, 3) := by decide +kernel
theorem dX6_odds_59 : decode cX6_odds 59 = .ok (.aload_n 0, 1) := by decide +kernel
theorem dX6_odds_60 : decode cX6_odds 60 = .ok (.getfield 13, 3) := by decide +kernel
theorem dX6_odds_63 : decode cX6_odds 63 = .ok (.iconst 0, 1) := by decide +kernel
theorem dX6_odds_64 : decode cX6_odds 64 = .ok (.iaload, 1) := by decide +kernel
theorem dX6_odds_65 : decode cX6_odds 65 = .ok (.istore 7, 2) := by decide +kernel
theorem dX6_odds_67 : decode cX6_odds 67 = .ok (.iconst 0, 1) := by decide +kernel
theorem dX6_odds_68 : decode cX6_odds 68 = .ok (.istore 8, 2) := by decide +kernel
theorem dX6_odds_70 : decode cX6_odds 70 = .ok (.iload 8, 2) := by decide +kernel
theorem dX6_odds_72 : decode cX6_odds 72 = .ok (.iload_n 1, 1) := by decide +kernel
theorem dX6_odds_73 : decode cX6_odds 73 = .ok (.if_icmp .ge 42, 3) := by decide +kernel
theorem dX6_odds_76 : decode cX6_odds 76 = .ok (.iload 7, 2) := by decide +kernel
theorem dX6_odds_78 : decode cX6_odds 78 = .ok (.iload 6, 2) := by decide +kernel
theorem dX6_odds_80 : decode cX6_odds 80 = .ok (.iload 8, 2) := by decide +kernel
theorem dX6_odds_82 : decode cX6_odds 82 = .ok (.ishr, 1) := by decide +kernel
theorem dX6_odds_83 : decode cX6_odds 83 = .ok (.iconst 1, 1) := by decide +kernel
theorem dX6_odds_84 : decode cX6_odds 84 = .ok (.iand, 1) := by decide +kernel
theorem dX6_odds_85 : decode cX6_odds 85 = .ok (.aload_n 0, 1) := by decide +kernel
theorem dX6_odds_86 : decode cX6_odds 86 = .ok (.getfield 125, 3) := by decide +kernel
theorem dX6_odds_89 : decode cX6_odds 89 = .ok (.imul, 1) := by decide +kernel
theorem dX6_odds_90 : decode cX6_odds 90 = .ok (.iadd, 1) := by decide +kernel
theorem dX6_odds_91 : decode cX6_odds 91 = .ok (.istore 7, 2) := by decide +kernel
theorem dX6_odds_93 : decode cX6_odds 93 = .ok (.iload 7, 2) := by decide +kernel
theorem dX6_odds_95 : decode cX6_odds 95 = .ok (.bipush 9, 2) := by decide +kernel
theorem dX6_odds_97 : decode cX6_odds 97 = .ok (.if_icmp .le 8, 3) := by decide +kernel
theorem dX6_odds_100 : decode cX6_odds 100 = .ok (.bipush 9, 2) := by decide +kernel
theorem dX6_odds_102 : decode cX6_odds 102 = .ok (.goto 5, 3) := by decide +kernel
theorem dX6_odds_105 : decode cX6_odds 105 = .ok (.iload 7, 2) := by decide +kernel
theorem dX6_odds_107 : decode cX6_odds 107 = .ok (.istore 7, 2) := by decide +kernel
theorem dX6_odds_109 : decode cX6_odds 109 = .ok (.iinc 8 1, 3) := by decide +kernel
theorem dX6_odds_112 : decode cX6_odds 112 = .ok (.goto (-42), 3) := by decide +kernel
theorem dX6_odds_115 : decode cX6_odds 115 = .ok (.lload 4, 2) := by decide +kernel
theorem dX6_odds_117 : decode cX6_odds 117 = .ok (.iload 7, 2) := by decide +kernel
theorem dX6_odds_119 : decode cX6_odds 119 = .ok (.iload_n 2, 1) := by decide +kernel
theorem dX6_odds_120 : decode cX6_odds 120 = .ok (.if_icmp .lt 7, 3) := by decide +kernel
theorem dX6_odds_123 : decode cX6_odds 123 = .ok (.lconst 1, 1) := by decide +kernel
theorem dX6_odds_124 : decode cX6_odds 124 = .ok (.goto 4, 3) := by decide +kernel
theorem dX6_odds_127 : decode cX6_odds 127 = .ok (.lconst 0, 1) := by decide +kernel
theorem dX6_odds_128 : decode cX6_odds 128 = .ok (.ladd, 1) := by decide +kernel
theorem dX6_odds_129 : decode cX6_odds 129 = .ok (.lstore 4, 2) := by decide +kernel
theorem dX6_odds_131 : decode cX6_odds 131 = .ok (.iinc 6 1, 3) := by decide +kernel
theorem dX6_odds_134 : decode cX6_odds 134 = .ok (.goto (-83), 3) := by decide +kernel
theorem dX6_odds_137 : decode cX6_odds 137 = .ok (.lload 4, 2) := by decide +kernel
theorem dX6_odds_139 : decode cX6_odds 139 = .ok (.lconst 1, 1) := by decide +kernel
theorem dX6_odds_140 : decode cX6_odds 140 = .ok (.iload_n 1, 1) := by decide +kernel
theorem dX6_odds_141 : decode cX6_odds 141 = .ok (.lshl, 1) := by decide +kernel
theorem dX6_odds_142 : decode cX6_odds 142 = .ok (.iload_n 3, 1) := by decide +kernel
theorem dX6_odds_143 : decode cX6_odds 143 = .ok (.invokestatic 226, 3) := by decide +kernel
theorem dX6_odds_146 : decode cX6_odds 146 = .ok (.lreturn, 1) := by decide +kernel
set_option maxRecDepth 20000 in
theorem ggX6_noSheet_X6_in : GoodIn wsX6_noSheet wsX6_in := goodIn_r _ [5] (by decide +kernel) (by decide +kernel)
set_option maxRecDepth 20000 in
theorem gX6_noSheet_X6_in : GoodIn wsX6_noSheet (va_wsS RX6 76 yX6_in wsX6_in) := goodIn_app (goodIn_of _ (by decide +kernel)) ggX6_noSheet_X6_in
theorem dX6_noSheet_0 : decode cX6_noSheet 0 = .ok (.iload_n 0, 1) := by decide +kernel
theorem dX6_noSheet_1 : decode cX6_noSheet 1 = .ok (.i2l, 1) := by decide +kernel
theorem dX6_noSheet_2 : decode cX6_noSheet 2 = .ok (.lconst 0, 1) := by decide +kernel
theorem dX6_noSheet_3 : decode cX6_noSheet 3 = .ok (.ldc2_w 139, 3) := by decide +kernel
theorem dX6_noSheet_6 : decode cX6_noSheet 6 = .ok (.invokestatic 76, 3) := by decide +kernel
theorem dX6_noSheet_9 : decode cX6_noSheet 9 = .ok (.ifCond .ne 7, 3) := by decide +kernel
theorem dX6_noSheet_12 : decode cX6_noSheet 12 = .ok (.iconst 1, 1) := by decide +kernel
theorem dX6_noSheet_13 : decode cX6_noSheet 13 = .ok (.goto 4, 3) := by decide +kernel
theorem dX6_noSheet_16 : decode cX6_noSheet 16 = .ok (.iconst 0, 1) := by decide +kernel
theorem dX6_noSheet_17 : decode cX6_noSheet 17 = .ok (.ireturn, 1) := by decide +kernel
set_option maxRecDepth 20000 in
theorem ggX6_sheet_X6_noSheet : GoodIn wsX6_sheet wsX6_noSheet := goodIn_r _ [8, 9, 10, 11, 7, 12] (by decide +kernel) (by decide +kernel)
set_option maxRecDepth 20000 in
theorem gX6_sheet_X6_noSheet : GoodIn wsX6_sheet (va_wsS RX6 109 yX6_noSheet wsX6_noSheet) := goodIn_app (goodIn_of _ (by decide +kernel)) ggX6_sheet_X6_noSheet
set_option maxRecDepth 20000 in
theorem ggX6_sheet_X6_refused : GoodIn wsX6_sheet wsX6_refused := goodIn_r _ [16, 17, 22, 23, 24, 25, 26, 27, 28, 29, 30, 31, 32, 33, 34, 35, 36, 37, 38, 39, 40, 41, 42, 43, 44, 45, 46, 47, 48, 49, 50, 51] (by decide +kernel) (by decide +kernel)
set_option maxRecDepth 20000 in
theorem gX6_sheet_X6_refused : GoodIn wsX6_sheet (wsV RX6 113 RX6 yX6_refused wsX6_refused) := goodIn_app (goodIn_of _ (by decide +kernel)) ggX6_sheet_X6_refused
set_option maxRecDepth 20000 in
theorem ggX6_sheet_X6_in : GoodIn wsX6_sheet wsX6_in := goodIn_r _ [12] (by decide +kernel) (by decide +kernel)
set_option maxRecDepth 20000 in
theorem gX6_sheet_X6_in : GoodIn wsX6_sheet (va_wsS RX6 76 yX6_in wsX6_in) := goodIn_app (goodIn_of _ (by decide +kernel)) ggX6_sheet_X6_in
set_option maxRecDepth 20000 in
theorem ggX6_sheet_X6_failed : GoodIn wsX6_sheet wsX6_failed := goodIn_r _ [21, 17, 22, 23, 24, 25, 26, 27, 28, 29, 30, 31, 32, 33, 34, 35, 36, 37, 38, 39, 40, 41, 42, 43, 44, 45, 46, 47, 48, 49, 50, 51] (by decide +kernel) (by decide +kernel)
set_option maxRecDepth 20000 in
theorem gX6_sheet_X6_failed : GoodIn wsX6_sheet (wsV RX6 101 RX6 yX6_failed wsX6_failed) := goodIn_app (goodIn_of _ (by decide +kernel)) ggX6_sheet_X6_failed
theorem dX6_sheet_0 : decode cX6_sheet 0 = .ok (.iload_n 1, 1) := by decide +kernel
theorem dX6_sheet_1 : decode cX6_sheet 1 = .ok (.invokestatic 109, 3) := by decide +kernel
theorem dX6_sheet_4 : decode cX6_sheet 4 = .ok (.ifCond .eq 9, 3) := by decide +kernel
theorem dX6_sheet_7 : decode cX6_sheet 7 = .ok (.aload_n 0, 1) := by decide +kernel
theorem dX6_sheet_8 : decode cX6_sheet 8 = .ok (.iconst (-1), 1) := by decide +kernel
theorem dX6_sheet_9 : decode cX6_sheet 9 = .ok (.invokevirtual 113, 3) := by decide +kernel
theorem dX6_sheet_12 : decode cX6_sheet 12 = .ok (.ireturn, 1) := by decide +kernel
theorem dX6_sheet_13 : decode cX6_sheet 13 = .ok (.iload_n 2, 1) := by decide +kernel
theorem dX6_sheet_14 : decode cX6_sheet 14 = .ok (.i2l, 1) := by decide +kernel
theorem dX6_sheet_15 : decode cX6_sheet 15 = .ok (.lconst 0, 1) := by decide +kernel
theorem dX6_sheet_16 : decode cX6_sheet 16 = .ok (.ldc2_w 116, 3) := by decide +kernel
theorem dX6_sheet_19 : decode cX6_sheet 19 = .ok (.invokestatic 76, 3) := by decide +kernel
theorem dX6_sheet_22 : decode cX6_sheet 22 = .ok (.ifCond .eq 9, 3) := by decide +kernel
theorem dX6_sheet_25 : decode cX6_sheet 25 = .ok (.iload_n 3, 1) := by decide +kernel
theorem dX6_sheet_26 : decode cX6_sheet 26 = .ok (.bipush 60, 2) := by decide +kernel
theorem dX6_sheet_28 : decode cX6_sheet 28 = .ok (.if_icmp .le 10, 3) := by decide +kernel
theorem dX6_sheet_31 : decode cX6_sheet 31 = .ok (.aload_n 0, 1) := by decide +kernel
theorem dX6_sheet_32 : decode cX6_sheet 32 = .ok (.bipush (-2), 2) := by decide +kernel
theorem dX6_sheet_34 : decode cX6_sheet 34 = .ok (.invokevirtual 113, 3) := by decide +kernel
theorem dX6_sheet_37 : decode cX6_sheet 37 = .ok (.ireturn, 1) := by decide +kernel
theorem dX6_sheet_38 : decode cX6_sheet 38 = .ok (.iload_n 3, 1) := by decide +kernel
theorem dX6_sheet_39 : decode cX6_sheet 39 = .ok (.ifCond .ge 9, 3) := by decide +kernel
theorem dX6_sheet_42 : decode cX6_sheet 42 = .ok (.aload_n 0, 1) := by decide +kernel
theorem dX6_sheet_43 : decode cX6_sheet 43 = .ok (.iconst 4, 1) := by decide +kernel
theorem dX6_sheet_44 : decode cX6_sheet 44 = .ok (.invokevirtual 101, 3) := by decide +kernel
theorem dX6_sheet_47 : decode cX6_sheet 47 = .ok (.ireturn, 1) := by decide +kernel
theorem dX6_sheet_48 : decode cX6_sheet 48 = .ok (.aload_n 0, 1) := by decide +kernel
theorem dX6_sheet_49 : decode cX6_sheet 49 = .ok (.getfield 51, 3) := by decide +kernel
theorem dX6_sheet_52 : decode cX6_sheet 52 = .ok (.iload_n 1, 1) := by decide +kernel
theorem dX6_sheet_53 : decode cX6_sheet 53 = .ok (.iload_n 3, 1) := by decide +kernel
theorem dX6_sheet_54 : decode cX6_sheet 54 = .ok (.iastore, 1) := by decide +kernel
theorem dX6_sheet_55 : decode cX6_sheet 55 = .ok (.aload_n 0, 1) := by decide +kernel
theorem dX6_sheet_56 : decode cX6_sheet 56 = .ok (.getfield 54, 3) := by decide +kernel
theorem dX6_sheet_59 : decode cX6_sheet 59 = .ok (.iload_n 1, 1) := by decide +kernel
theorem dX6_sheet_60 : decode cX6_sheet 60 = .ok (.iload_n 2, 1) := by decide +kernel
theorem dX6_sheet_61 : decode cX6_sheet 61 = .ok (.iastore, 1) := by decide +kernel
theorem dX6_sheet_62 : decode cX6_sheet 62 = .ok (.iconst 0, 1) := by decide +kernel
theorem dX6_sheet_63 : decode cX6_sheet 63 = .ok (.istore 4, 2) := by decide +kernel
theorem dX6_sheet_65 : decode cX6_sheet 65 = .ok (.iload 4, 2) := by decide +kernel
theorem dX6_sheet_67 : decode cX6_sheet 67 = .ok (.iload_n 3, 1) := by decide +kernel
theorem dX6_sheet_68 : decode cX6_sheet 68 = .ok (.if_icmp .ge 22, 3) := by decide +kernel
theorem dX6_sheet_71 : decode cX6_sheet 71 = .ok (.aload_n 0, 1) := by decide +kernel
theorem dX6_sheet_72 : decode cX6_sheet 72 = .ok (.getfield 57, 3) := by decide +kernel
theorem dX6_sheet_75 : decode cX6_sheet 75 = .ok (.bipush 60, 2) := by decide +kernel
theorem dX6_sheet_77 : decode cX6_sheet 77 = .ok (.iload_n 1, 1) := by decide +kernel
theorem dX6_sheet_78 : decode cX6_sheet 78 = .ok (.imul, 1) := by decide +kernel
theorem dX6_sheet_79 : decode cX6_sheet 79 = .ok (.iload 4, 2) := by decide +kernel
theorem dX6_sheet_81 : decode cX6_sheet 81 = .ok (.iadd, 1) := by decide +kernel
theorem dX6_sheet_82 : decode cX6_sheet 82 = .ok (.iconst 0, 1) := by decide +kernel
theorem dX6_sheet_83 : decode cX6_sheet 83 = .ok (.iastore, 1) := by decide +kernel
theorem dX6_sheet_84 : decode cX6_sheet 84 = .ok (.iinc 4 1, 3) := by decide +kernel
theorem dX6_sheet_87 : decode cX6_sheet 87 = .ok (.goto (-22), 3) := by decide +kernel
theorem dX6_sheet_90 : decode cX6_sheet 90 = .ok (.aload_n 0, 1) := by decide +kernel
theorem dX6_sheet_91 : decode cX6_sheet 91 = .ok (.iconst 1, 1) := by decide +kernel
theorem dX6_sheet_92 : decode cX6_sheet 92 = .ok (.invokevirtual 113, 3) := by decide +kernel
theorem dX6_sheet_95 : decode cX6_sheet 95 = .ok (.ireturn, 1) := by decide +kernel
set_option maxRecDepth 20000 in
theorem ggX6_lose_X6_noSheet : GoodIn wsX6_lose wsX6_noSheet := goodIn_r _ [5, 6, 7, 8, 4, 9] (by decide +kernel) (by decide +kernel)
set_option maxRecDepth 20000 in
theorem gX6_lose_X6_noSheet : GoodIn wsX6_lose (va_wsS RX6 109 yX6_noSheet wsX6_noSheet) := goodIn_app (goodIn_of _ (by decide +kernel)) ggX6_lose_X6_noSheet
theorem dX6_lose_0 : decode cX6_lose 0 = .ok (.iload_n 1, 1) := by decide +kernel
theorem dX6_lose_1 : decode cX6_lose 1 = .ok (.invokestatic 109, 3) := by decide +kernel
theorem dX6_lose_4 : decode cX6_lose 4 = .ok (.ifCond .eq 5, 3) := by decide +kernel
theorem dX6_lose_7 : decode cX6_lose 7 = .ok (.iconst (-1), 1) := by decide +kernel
theorem dX6_lose_8 : decode cX6_lose 8 = .ok (.ireturn, 1) := by decide +kernel
theorem dX6_lose_9 : decode cX6_lose 9 = .ok (.aload_n 0, 1) := by decide +kernel
theorem dX6_lose_10 : decode cX6_lose 10 = .ok (.getfield 51, 3) := by decide +kernel
theorem dX6_lose_13 : decode cX6_lose 13 = .ok (.iload_n 1, 1) := by decide +kernel
theorem dX6_lose_14 : decode cX6_lose 14 = .ok (.iaload, 1) := by decide +kernel
theorem dX6_lose_15 : decode cX6_lose 15 = .ok (.ifCond .ge 7, 3) := by decide +kernel
theorem dX6_lose_18 : decode cX6_lose 18 = .ok (.iconst 0, 1) := by decide +kernel
theorem dX6_lose_19 : decode cX6_lose 19 = .ok (.goto 4, 3) := by decide +kernel
theorem dX6_lose_22 : decode cX6_lose 22 = .ok (.iconst 1, 1) := by decide +kernel
theorem dX6_lose_23 : decode cX6_lose 23 = .ok (.istore_n 2, 1) := by decide +kernel
theorem dX6_lose_24 : decode cX6_lose 24 = .ok (.aload_n 0, 1) := by decide +kernel
theorem dX6_lose_25 : decode cX6_lose 25 = .ok (.getfield 51, 3) := by decide +kernel
theorem dX6_lose_28 : decode cX6_lose 28 = .ok (.iload_n 1, 1) := by decide +kernel
theorem dX6_lose_29 : decode cX6_lose 29 = .ok (.iconst (-1), 1) := by decide +kernel
theorem dX6_lose_30 : decode cX6_lose 30 = .ok (.iastore, 1) := by decide +kernel
theorem dX6_lose_31 : decode cX6_lose 31 = .ok (.iload_n 2, 1) := by decide +kernel
theorem dX6_lose_32 : decode cX6_lose 32 = .ok (.ireturn, 1) := by decide +kernel
set_option maxRecDepth 20000 in
theorem ggX6_noCell_X6_in : GoodIn wsX6_noCell wsX6_in := goodIn_r _ [5] (by decide +kernel) (by decide +kernel)
set_option maxRecDepth 20000 in
theorem gX6_noCell_X6_in : GoodIn wsX6_noCell (va_wsS RX6 76 yX6_in wsX6_in) := goodIn_app (goodIn_of _ (by decide +kernel)) ggX6_noCell_X6_in
theorem dX6_noCell_0 : decode cX6_noCell 0 = .ok (.aload_n 0, 1) := by decide +kernel
theorem dX6_noCell_1 : decode cX6_noCell 1 = .ok (.getfield 51, 3) := by decide +kernel
theorem dX6_noCell_4 : decode cX6_noCell 4 = .ok (.iload_n 1, 1) := by decide +kernel
theorem dX6_noCell_5 : decode cX6_noCell 5 = .ok (.iaload, 1) := by decide +kernel
theorem dX6_noCell_6 : decode cX6_noCell 6 = .ok (.ifCond .ge 7, 3) := by decide +kernel
theorem dX6_noCell_9 : decode cX6_noCell 9 = .ok (.iconst 1, 1) := by decide +kernel
theorem dX6_noCell_10 : decode cX6_noCell 10 = .ok (.goto 26, 3) := by decide +kernel
theorem dX6_noCell_13 : decode cX6_noCell 13 = .ok (.iload_n 2, 1) := by decide +kernel
theorem dX6_noCell_14 : decode cX6_noCell 14 = .ok (.i2l, 1) := by decide +kernel
theorem dX6_noCell_15 : decode cX6_noCell 15 = .ok (.lconst 0, 1) := by decide +kernel
theorem dX6_noCell_16 : decode cX6_noCell 16 = .ok (.aload_n 0, 1) := by decide +kernel
theorem dX6_noCell_17 : decode cX6_noCell 17 = .ok (.getfield 51, 3) := by decide +kernel
theorem dX6_noCell_20 : decode cX6_noCell 20 = .ok (.iload_n 1, 1) := by decide +kernel
theorem dX6_noCell_21 : decode cX6_noCell 21 = .ok (.iaload, 1) := by decide +kernel
theorem dX6_noCell_22 : decode cX6_noCell 22 = .ok (.i2l, 1) := by decide +kernel
theorem dX6_noCell_23 : decode cX6_noCell 23 = .ok (.lconst 1, 1) := by decide +kernel
theorem dX6_noCell_24 : decode cX6_noCell 24 = .ok (.lsub, 1) := by decide +kernel
theorem dX6_noCell_25 : decode cX6_noCell 25 = .ok (.invokestatic 76, 3) := by decide +kernel
theorem dX6_noCell_28 : decode cX6_noCell 28 = .ok (.ifCond .eq 7, 3) := by decide +kernel
theorem dX6_noCell_31 : decode cX6_noCell 31 = .ok (.iconst 0, 1) := by decide +kernel
theorem dX6_noCell_32 : decode cX6_noCell 32 = .ok (.goto 4, 3) := by decide +kernel
theorem dX6_noCell_35 : decode cX6_noCell 35 = .ok (.iconst 3, 1) := by decide +kernel
theorem dX6_noCell_36 : decode cX6_noCell 36 = .ok (.ireturn, 1) := by decide +kernel
set_option maxRecDepth 20000 in
theorem ggX6_put_X6_noSheet : GoodIn wsX6_put wsX6_noSheet := goodIn_r _ [6, 7, 8, 9, 5, 10] (by decide +kernel) (by decide +kernel)
set_option maxRecDepth 20000 in
theorem gX6_put_X6_noSheet : GoodIn wsX6_put (va_wsS RX6 109 yX6_noSheet wsX6_noSheet) := goodIn_app (goodIn_of _ (by decide +kernel)) ggX6_put_X6_noSheet
set_option maxRecDepth 20000 in
theorem ggX6_put_X6_refused : GoodIn wsX6_put wsX6_refused := goodIn_r _ [14, 15, 25, 26, 27, 28, 29, 30, 31, 32, 33, 34, 35, 36, 37, 38, 39, 40, 41, 42, 43, 44, 45, 46, 47, 48, 49, 50, 51, 52, 53, 54] (by decide +kernel) (by decide +kernel)
set_option maxRecDepth 20000 in
theorem gX6_put_X6_refused : GoodIn wsX6_put (wsV RX6 113 RX6 yX6_refused wsX6_refused) := goodIn_app (goodIn_of _ (by decide +kernel)) ggX6_put_X6_refused
set_option maxRecDepth 20000 in
theorem ggX6_put_X6_noCell : GoodIn wsX6_put wsX6_noCell := goodIn_r _ [19, 20, 8, 9, 5, 10, 25, 26, 27, 28, 29, 30, 31, 32, 33, 34, 35, 36, 37, 38, 39, 40, 41, 42, 43, 44, 45, 46, 47, 48, 49, 50, 51, 52, 53, 54] (by decide +kernel) (by decide +kernel)
set_option maxRecDepth 20000 in
theorem gX6_put_X6_noCell : GoodIn wsX6_put (wsV RX6 230 RX6 yX6_noCell wsX6_noCell) := goodIn_app (goodIn_of _ (by decide +kernel)) ggX6_put_X6_noCell
set_option maxRecDepth 20000 in
theorem ggX6_put_X6_failed : GoodIn wsX6_put wsX6_failed := goodIn_r _ [24, 15, 25, 26, 27, 28, 29, 30, 31, 32, 33, 34, 35, 36, 37, 38, 39, 40, 41, 42, 43, 44, 45, 46, 47, 48, 49, 50, 51, 52, 53, 54] (by decide +kernel) (by decide +kernel)
set_option maxRecDepth 20000 in
theorem gX6_put_X6_failed : GoodIn wsX6_put (wsV RX6 101 RX6 yX6_failed wsX6_failed) := goodIn_app (goodIn_of _ (by decide +kernel)) ggX6_put_X6_failed
theorem dX6_put_0 : decode cX6_put 0 = .ok (.iload_n 1, 1) := by decide +kernel
theorem dX6_put_1 : decode cX6_put 1 = .ok (.invokestatic 109, 3) := by decide +kernel
theorem dX6_put_4 : decode cX6_put 4 = .ok (.ifCond .eq 9, 3) := by decide +kernel
theorem dX6_put_7 : decode cX6_put 7 = .ok (.aload_n 0, 1) := by decide +kernel
theorem dX6_put_8 : decode cX6_put 8 = .ok (.iconst (-1), 1) := by decide +kernel
theorem dX6_put_9 : decode cX6_put 9 = .ok (.invokevirtual 113, 3) := by decide +kernel
theorem dX6_put_12 : decode cX6_put 12 = .ok (.ireturn, 1) := by decide +kernel
theorem dX6_put_13 : decode cX6_put 13 = .ok (.aload_n 0, 1) := by decide +kernel
theorem dX6_put_14 : decode cX6_put 14 = .ok (.iload_n 1, 1) := by decide +kernel
theorem dX6_put_15 : decode cX6_put 15 = .ok (.iload_n 2, 1) := by decide +kernel
theorem dX6_put_16 : decode cX6_put 16 = .ok (.invokevirtual 230, 3) := by decide +kernel
theorem dX6_put_19 : decode cX6_put 19 = .ok (.ifCond .le 14, 3) := by decide +kernel
theorem dX6_put_22 : decode cX6_put 22 = .ok (.aload_n 0, 1) := by decide +kernel
theorem dX6_put_23 : decode cX6_put 23 = .ok (.aload_n 0, 1) := by decide +kernel
theorem dX6_put_24 : decode cX6_put 24 = .ok (.iload_n 1, 1) := by decide +kernel
theorem dX6_put_25 : decode cX6_put 25 = .ok (.iload_n 2, 1) := by decide +kernel
theorem dX6_put_26 : decode cX6_put 26 = .ok (.invokevirtual 230, 3) := by decide +kernel
theorem dX6_put_29 : decode cX6_put 29 = .ok (.invokevirtual 101, 3) := by decide +kernel
theorem dX6_put_32 : decode cX6_put 32 = .ok (.ireturn, 1) := by decide +kernel
theorem dX6_put_33 : decode cX6_put 33 = .ok (.aload_n 0, 1) := by decide +kernel
theorem dX6_put_34 : decode cX6_put 34 = .ok (.getfield 57, 3) := by decide +kernel
theorem dX6_put_37 : decode cX6_put 37 = .ok (.bipush 60, 2) := by decide +kernel
theorem dX6_put_39 : decode cX6_put 39 = .ok (.iload_n 1, 1) := by decide +kernel
theorem dX6_put_40 : decode cX6_put 40 = .ok (.imul, 1) := by decide +kernel
theorem dX6_put_41 : decode cX6_put 41 = .ok (.iload_n 2, 1) := by decide +kernel
theorem dX6_put_42 : decode cX6_put 42 = .ok (.iadd, 1) := by decide +kernel
theorem dX6_put_43 : decode cX6_put 43 = .ok (.aload_n 0, 1) := by decide +kernel
theorem dX6_put_44 : decode cX6_put 44 = .ok (.getfield 54, 3) := by decide +kernel
theorem dX6_put_47 : decode cX6_put 47 = .ok (.iload_n 1, 1) := by decide +kernel
theorem dX6_put_48 : decode cX6_put 48 = .ok (.iaload, 1) := by decide +kernel
theorem dX6_put_49 : decode cX6_put 49 = .ok (.ifCond .ne 8, 3) := by decide +kernel
theorem dX6_put_52 : decode cX6_put 52 = .ok (.iload_n 3, 1) := by decide +kernel
theorem dX6_put_53 : decode cX6_put 53 = .ok (.i2b, 1) := by decide +kernel
theorem dX6_put_54 : decode cX6_put 54 = .ok (.goto 19, 3) := by decide +kernel
theorem dX6_put_57 : decode cX6_put 57 = .ok (.aload_n 0, 1) := by decide +kernel
theorem dX6_put_58 : decode cX6_put 58 = .ok (.getfield 54, 3) := by decide +kernel
theorem dX6_put_61 : decode cX6_put 61 = .ok (.iload_n 1, 1) := by decide +kernel
theorem dX6_put_62 : decode cX6_put 62 = .ok (.iaload, 1) := by decide +kernel
theorem dX6_put_63 : decode cX6_put 63 = .ok (.iconst 1, 1) := by decide +kernel
theorem dX6_put_64 : decode cX6_put 64 = .ok (.if_icmp .ne 8, 3) := by decide +kernel
theorem dX6_put_67 : decode cX6_put 67 = .ok (.iload_n 3, 1) := by decide +kernel
theorem dX6_put_68 : decode cX6_put 68 = .ok (.i2s, 1) := by decide +kernel
theorem dX6_put_69 : decode cX6_put 69 = .ok (.goto 4, 3) := by decide +kernel
theorem dX6_put_72 : decode cX6_put 72 = .ok (.iload_n 3, 1) := by decide +kernel
theorem dX6_put_73 : decode cX6_put 73 = .ok (.iastore, 1) := by decide +kernel
theorem dX6_put_74 : decode cX6_put 74 = .ok (.aload_n 0, 1) := by decide +kernel
theorem dX6_put_75 : decode cX6_put 75 = .ok (.iconst 1, 1) := by decide +kernel
theorem dX6_put_76 : decode cX6_put 76 = .ok (.invokevirtual 113, 3) := by decide +kernel
theorem dX6_put_79 : decode cX6_put 79 = .ok (.ireturn, 1) := by decide +kernel
set_option maxRecDepth 20000 in
theorem ggX6_cell_X6_noSheet : GoodIn wsX6_cell wsX6_noSheet := goodIn_r _ [9, 10, 11, 12, 8, 13] (by decide +kernel) (by decide +kernel)
set_option maxRecDepth 20000 in
theorem gX6_cell_X6_noSheet : GoodIn wsX6_cell (va_wsS RX6 109 yX6_noSheet wsX6_noSheet) := goodIn_app (goodIn_of _ (by decide +kernel)) ggX6_cell_X6_noSheet
set_option maxRecDepth 20000 in
theorem ggX6_cell_X6_in : GoodIn wsX6_cell wsX6_in := goodIn_r _ [13] (by decide +kernel) (by decide +kernel)
set_option maxRecDepth 20000 in
theorem gX6_cell_X6_in : GoodIn wsX6_cell (va_wsS RX6 76 yX6_in wsX6_in) := goodIn_app (goodIn_of _ (by decide +kernel)) ggX6_cell_X6_in
set_option maxRecDepth 20000 in
theorem ggX6_cell_X6_lost : GoodIn wsX6_cell wsX6_lost := goodIn_r _ [16, 17] (by decide +kernel) (by decide +kernel)
set_option maxRecDepth 20000 in
theorem gX6_cell_X6_lost : GoodIn wsX6_cell (va_wsS RX6 69 yX6_lost wsX6_lost) := goodIn_app (goodIn_of _ (by decide +kernel)) ggX6_cell_X6_lost
set_option maxRecDepth 20000 in
theorem ggX6_cell_X6_failedLong : GoodIn wsX6_cell wsX6_failedLong := goodIn_r _ [21, 1, 14, 15, 8, 16, 17, 26, 27, 28, 29, 30, 31, 32, 33, 34, 35, 36, 37, 38, 39, 40, 41, 42, 43, 44, 45, 46, 47, 48, 49, 50, 51, 52, 53, 54, 55] (by decide +kernel) (by decide +kernel)
set_option maxRecDepth 20000 in
theorem gX6_cell_X6_failedLong : GoodIn wsX6_cell (wsV RX6 233 RX6 yX6_failedLong wsX6_failedLong) := goodIn_app (goodIn_of _ (by decide +kernel)) ggX6_cell_X6_failedLong
set_option maxRecDepth 20000 in
theorem ggX6_cell_X6_noCell : GoodIn wsX6_cell wsX6_noCell := goodIn_r _ [25, 3, 11, 12, 8, 13, 26, 27, 28, 29, 30, 31, 32, 33, 34, 35, 36, 37, 38, 39, 40, 41, 42, 43, 44, 45, 46, 47, 48, 49, 50, 51, 52, 53, 54, 55] (by decide +kernel) (by decide +kernel)
set_option maxRecDepth 20000 in
theorem gX6_cell_X6_noCell : GoodIn wsX6_cell (wsV RX6 230 RX6 yX6_noCell wsX6_noCell) := goodIn_app (goodIn_of _ (by decide +kernel)) ggX6_cell_X6_noCell
theorem dX6_cell_0 : decode cX6_cell 0 = .ok (.aload_n 0, 1) := by decide +kernel
theorem dX6_cell_1 : decode cX6_cell 1 = .ok (.iconst 0, 1) := by decide +kernel
theorem dX6_cell_2 : decode cX6_cell 2 = .ok (.putfield 65, 3) := by decide +kernel
theorem dX6_cell_5 : decode cX6_cell 5 = .ok (.iload_n 1, 1) := by decide +kernel
theorem dX6_cell_6 : decode cX6_cell 6 = .ok (.invokestatic 109, 3) := by decide +kernel
theorem dX6_cell_9 : decode cX6_cell 9 = .ok (.ifCond .ne 15, 3) := by decide +kernel
theorem dX6_cell_12 : decode cX6_cell 12 = .ok (.iload_n 3, 1) := by decide +kernel
theorem dX6_cell_13 : decode cX6_cell 13 = .ok (.i2l, 1) := by decide +kernel
theorem dX6_cell_14 : decode cX6_cell 14 = .ok (.lconst 0, 1) := by decide +kernel
theorem dX6_cell_15 : decode cX6_cell 15 = .ok (.ldc2_w 116, 3) := by decide +kernel
theorem dX6_cell_18 : decode cX6_cell 18 = .ok (.invokestatic 76, 3) := by decide +kernel
theorem dX6_cell_21 : decode cX6_cell 21 = .ok (.ifCond .ne 7, 3) := by decide +kernel
theorem dX6_cell_24 : decode cX6_cell 24 = .ok (.invokestatic 69, 3) := by decide +kernel
theorem dX6_cell_27 : decode cX6_cell 27 = .ok (.lreturn, 1) := by decide +kernel
theorem dX6_cell_28 : decode cX6_cell 28 = .ok (.aload_n 0, 1) := by decide +kernel
theorem dX6_cell_29 : decode cX6_cell 29 = .ok (.getfield 51, 3) := by decide +kernel
theorem dX6_cell_32 : decode cX6_cell 32 = .ok (.iload_n 1, 1) := by decide +kernel
theorem dX6_cell_33 : decode cX6_cell 33 = .ok (.iaload, 1) := by decide +kernel
theorem dX6_cell_34 : decode cX6_cell 34 = .ok (.ifCond .lt 19, 3) := by decide +kernel
theorem dX6_cell_37 : decode cX6_cell 37 = .ok (.aload_n 0, 1) := by decide +kernel
theorem dX6_cell_38 : decode cX6_cell 38 = .ok (.getfield 54, 3) := by decide +kernel
theorem dX6_cell_41 : decode cX6_cell 41 = .ok (.iload_n 1, 1) := by decide +kernel
theorem dX6_cell_42 : decode cX6_cell 42 = .ok (.iaload, 1) := by decide +kernel
theorem dX6_cell_43 : decode cX6_cell 43 = .ok (.iload_n 3, 1) := by decide +kernel
theorem dX6_cell_44 : decode cX6_cell 44 = .ok (.if_icmp .eq 9, 3) := by decide +kernel
theorem dX6_cell_47 : decode cX6_cell 47 = .ok (.aload_n 0, 1) := by decide +kernel
theorem dX6_cell_48 : decode cX6_cell 48 = .ok (.iconst 2, 1) := by decide +kernel
theorem dX6_cell_49 : decode cX6_cell 49 = .ok (.invokevirtual 233, 3) := by decide +kernel
theorem dX6_cell_52 : decode cX6_cell 52 = .ok (.lreturn, 1) := by decide +kernel
theorem dX6_cell_53 : decode cX6_cell 53 = .ok (.aload_n 0, 1) := by decide +kernel
theorem dX6_cell_54 : decode cX6_cell 54 = .ok (.iload_n 1, 1) := by decide +kernel
theorem dX6_cell_55 : decode cX6_cell 55 = .ok (.iload_n 2, 1) := by decide +kernel
theorem dX6_cell_56 : decode cX6_cell 56 = .ok (.invokevirtual 230, 3) := by decide +kernel
theorem dX6_cell_59 : decode cX6_cell 59 = .ok (.ifCond .le 16, 3) := by decide +kernel
theorem dX6_cell_62 : decode cX6_cell 62 = .ok (.aload_n 0, 1) := by decide +kernel
theorem dX6_cell_63 : decode cX6_cell 63 = .ok (.aload_n 0, 1) := by decide +kernel
theorem dX6_cell_64 : decode cX6_cell 64 = .ok (.iload_n 1, 1) := by decide +kernel
theorem dX6_cell_65 : decode cX6_cell 65 = .ok (.iload_n 2, 1) := by decide +kernel
theorem dX6_cell_66 : decode cX6_cell 66 = .ok (.invokevirtual 230, 3) := by decide +kernel
theorem dX6_cell_69 : decode cX6_cell 69 = .ok (.invokevirtual 233, 3) := by decide +kernel
theorem dX6_cell_72 : decode cX6_cell 72 = .ok (.goto 15, 3) := by decide +kernel
theorem dX6_cell_75 : decode cX6_cell 75 = .ok (.aload_n 0, 1) := by decide +kernel
theorem dX6_cell_76 : decode cX6_cell 76 = .ok (.getfield 57, 3) := by decide +kernel
theorem dX6_cell_79 : decode cX6_cell 79 = .ok (.bipush 60, 2) := by decide +kernel
theorem dX6_cell_81 : decode cX6_cell 81 = .ok (.iload_n 1, 1) := by decide +kernel
theorem dX6_cell_82 : decode cX6_cell 82 = .ok (.imul, 1) := by decide +kernel
theorem dX6_cell_83 : decode cX6_cell 83 = .ok (.iload_n 2, 1) := by decide +kernel
theorem dX6_cell_84 : decode cX6_cell 84 = .ok (.iadd, 1) := by decide +kernel
theorem dX6_cell_85 : decode cX6_cell 85 = .ok (.iaload, 1) := by decide +kernel
theorem dX6_cell_86 : decode cX6_cell 86 = .ok (.i2l, 1) := by decide +kernel
theorem dX6_cell_87 : decode cX6_cell 87 = .ok (.lreturn, 1) := by decide +kernel
theorem dX6_isBeyond_0 : decode cX6_isBeyond 0 = .ok (.iload_n 0, 1) := by decide +kernel
theorem dX6_isBeyond_1 : decode cX6_isBeyond 1 = .ok (.ifCond .lt 19, 3) := by decide +kernel
theorem dX6_isBeyond_4 : decode cX6_isBeyond 4 = .ok (.lload_n 1, 1) := by decide +kernel
theorem dX6_isBeyond_5 : decode cX6_isBeyond 5 = .ok (.lconst 0, 1) := by decide +kernel
theorem dX6_isBeyond_6 : decode cX6_isBeyond 6 = .ok (.lcmp, 1) := by decide +kernel
theorem dX6_isBeyond_7 : decode cX6_isBeyond 7 = .ok (.ifCond .lt 13, 3) := by decide +kernel
theorem dX6_isBeyond_10 : decode cX6_isBeyond 10 = .ok (.iload_n 0, 1) := by decide +kernel
theorem dX6_isBeyond_11 : decode cX6_isBeyond 11 = .ok (.i2l, 1) := by decide +kernel
theorem dX6_isBeyond_12 : decode cX6_isBeyond 12 = .ok (.lload_n 1, 1) := by decide +kernel
theorem dX6_isBeyond_13 : decode cX6_isBeyond 13 = .ok (.ladd, 1) := by decide +kernel
theorem dX6_isBeyond_14 : decode cX6_isBeyond 14 = .ok (.iload_n 3, 1) := by decide +kernel
theorem dX6_isBeyond_15 : decode cX6_isBeyond 15 = .ok (.i2l, 1) := by decide +kernel
theorem dX6_isBeyond_16 : decode cX6_isBeyond 16 = .ok (.lcmp, 1) := by decide +kernel
theorem dX6_isBeyond_17 : decode cX6_isBeyond 17 = .ok (.ifCond .le 7, 3) := by decide +kernel
theorem dX6_isBeyond_20 : decode cX6_isBeyond 20 = .ok (.iconst 1, 1) := by decide +kernel
theorem dX6_isBeyond_21 : decode cX6_isBeyond 21 = .ok (.goto 4, 3) := by decide +kernel
theorem dX6_isBeyond_24 : decode cX6_isBeyond 24 = .ok (.iconst 0, 1) := by decide +kernel
theorem dX6_isBeyond_25 : decode cX6_isBeyond 25 = .ok (.ireturn, 1) := by decide +kernel
set_option maxRecDepth 20000 in
theorem ggX6_copy_X6_noSheet : GoodIn wsX6_copy wsX6_noSheet := goodIn_r _ [8, 9, 10, 11, 7, 12] (by decide +kernel) (by decide +kernel)
set_option maxRecDepth 20000 in
theorem gX6_copy_X6_noSheet : GoodIn wsX6_copy (va_wsS RX6 109 yX6_noSheet wsX6_noSheet) := goodIn_app (goodIn_of _ (by decide +kernel)) ggX6_copy_X6_noSheet
set_option maxRecDepth 20000 in
theorem ggX6_copy_X6_refused : GoodIn wsX6_copy wsX6_refused := goodIn_r _ [16, 17, 25, 26, 27, 28, 29, 30, 31, 32, 33, 34, 35, 36, 37, 38, 39, 40, 41, 42, 43, 44, 45, 46, 47, 48, 49, 50, 51, 52, 53, 54] (by decide +kernel) (by decide +kernel)
set_option maxRecDepth 20000 in
theorem gX6_copy_X6_refused : GoodIn wsX6_copy (wsV RX6 113 RX6 yX6_refused wsX6_refused) := goodIn_app (goodIn_of _ (by decide +kernel)) ggX6_copy_X6_refused
set_option maxRecDepth 20000 in
theorem ggX6_copy_X6_failed : GoodIn wsX6_copy wsX6_failed := goodIn_r _ [21, 17, 25, 26, 27, 28, 29, 30, 31, 32, 33, 34, 35, 36, 37, 38, 39, 40, 41, 42, 43, 44, 45, 46, 47, 48, 49, 50, 51, 52, 53, 54] (by decide +kernel) (by decide +kernel)
set_option maxRecDepth 20000 in
theorem gX6_copy_X6_failed : GoodIn wsX6_copy (wsV RX6 101 RX6 yX6_failed wsX6_failed) := goodIn_app (goodIn_of _ (by decide +kernel)) ggX6_copy_X6_failed
set_option maxRecDepth 20000 in
theorem ggX6_copy_X6_isBeyond : GoodIn wsX6_copy wsX6_isBeyond := goodIn_r _ [24] (by decide +kernel) (by decide +kernel)
set_option maxRecDepth 20000 in
theorem gX6_copy_X6_isBeyond : GoodIn wsX6_copy (va_wsS RX6 105 yX6_isBeyond wsX6_isBeyond) := goodIn_app (goodIn_of _ (by decide +kernel)) ggX6_copy_X6_isBeyond
theorem dX6_copy_0 : decode cX6_copy 0 = .ok (.iload_n 1, 1) := by decide +kernel
theorem dX6_copy_1 : decode cX6_copy 1 = .ok (.invokestatic 109, 3) := by decide +kernel
theorem dX6_copy_4 : decode cX6_copy 4 = .ok (.ifCond .ne 10, 3) := by decide +kernel
theorem dX6_copy_7 : decode cX6_copy 7 = .ok (.iload_n 3, 1) := by decide +kernel
theorem dX6_copy_8 : decode cX6_copy 8 = .ok (.invokestatic 109, 3) := by decide +kernel
theorem dX6_copy_11 : decode cX6_copy 11 = .ok (.ifCond .eq 9, 3) := by decide +kernel
theorem dX6_copy_14 : decode cX6_copy 14 = .ok (.aload_n 0, 1) := by decide +kernel
theorem dX6_copy_15 : decode cX6_copy 15 = .ok (.iconst (-1), 1) := by decide +kernel
theorem dX6_copy_16 : decode cX6_copy 16 = .ok (.invokevirtual 113, 3) := by decide +kernel
theorem dX6_copy_19 : decode cX6_copy 19 = .ok (.ireturn, 1) := by decide +kernel
theorem dX6_copy_20 : decode cX6_copy 20 = .ok (.aload_n 0, 1) := by decide +kernel
theorem dX6_copy_21 : decode cX6_copy 21 = .ok (.getfield 51, 3) := by decide +kernel
theorem dX6_copy_24 : decode cX6_copy 24 = .ok (.iload_n 1, 1) := by decide +kernel
theorem dX6_copy_25 : decode cX6_copy 25 = .ok (.iaload, 1) := by decide +kernel
theorem dX6_copy_26 : decode cX6_copy 26 = .ok (.ifCond .lt 12, 3) := by decide +kernel
theorem dX6_copy_29 : decode cX6_copy 29 = .ok (.aload_n 0, 1) := by decide +kernel
theorem dX6_copy_30 : decode cX6_copy 30 = .ok (.getfield 51, 3) := by decide +kernel
theorem dX6_copy_33 : decode cX6_copy 33 = .ok (.iload_n 3, 1) := by decide +kernel
theorem dX6_copy_34 : decode cX6_copy 34 = .ok (.iaload, 1) := by decide +kernel
theorem dX6_copy_35 : decode cX6_copy 35 = .ok (.ifCond .ge 9, 3) := by decide +kernel
theorem dX6_copy_38 : decode cX6_copy 38 = .ok (.aload_n 0, 1) := by decide +kernel
theorem dX6_copy_39 : decode cX6_copy 39 = .ok (.iconst 1, 1) := by decide +kernel
theorem dX6_copy_40 : decode cX6_copy 40 = .ok (.invokevirtual 101, 3) := by decide +kernel
theorem dX6_copy_43 : decode cX6_copy 43 = .ok (.ireturn, 1) := by decide +kernel
theorem dX6_copy_44 : decode cX6_copy 44 = .ok (.aload_n 0, 1) := by decide +kernel
theorem dX6_copy_45 : decode cX6_copy 45 = .ok (.getfield 54, 3) := by decide +kernel
theorem dX6_copy_48 : decode cX6_copy 48 = .ok (.iload_n 1, 1) := by decide +kernel
theorem dX6_copy_49 : decode cX6_copy 49 = .ok (.iaload, 1) := by decide +kernel
theorem dX6_copy_50 : decode cX6_copy 50 = .ok (.aload_n 0, 1) := by decide +kernel
theorem dX6_copy_51 : decode cX6_copy 51 = .ok (.getfield 54, 3) := by decide +kernel
theorem dX6_copy_54 : decode cX6_copy 54 = .ok (.iload_n 3, 1) := by decide +kernel
theorem dX6_copy_55 : decode cX6_copy 55 = .ok (.iaload, 1) := by decide +kernel
theorem dX6_copy_56 : decode cX6_copy 56 = .ok (.if_icmp .eq 9, 3) := by decide +kernel
theorem dX6_copy_59 : decode cX6_copy 59 = .ok (.aload_n 0, 1) := by decide +kernel
theorem dX6_copy_60 : decode cX6_copy 60 = .ok (.iconst 2, 1) := by decide +kernel
theorem dX6_copy_61 : decode cX6_copy 61 = .ok (.invokevirtual 101, 3) := by decide +kernel
theorem dX6_copy_64 : decode cX6_copy 64 = .ok (.ireturn, 1) := by decide +kernel
theorem dX6_copy_65 : decode cX6_copy 65 = .ok (.iload_n 2, 1) := by decide +kernel
theorem dX6_copy_66 : decode cX6_copy 66 = .ok (.iload 5, 2) := by decide +kernel
theorem dX6_copy_68 : decode cX6_copy 68 = .ok (.i2l, 1) := by decide +kernel
theorem dX6_copy_69 : decode cX6_copy 69 = .ok (.aload_n 0, 1) := by decide +kernel
theorem dX6_copy_70 : decode cX6_copy 70 = .ok (.getfield 51, 3) := by decide +kernel
theorem dX6_copy_73 : decode cX6_copy 73 = .ok (.iload_n 1, 1) := by decide +kernel
theorem dX6_copy_74 : decode cX6_copy 74 = .ok (.iaload, 1) := by decide +kernel
theorem dX6_copy_75 : decode cX6_copy 75 = .ok (.invokestatic 105, 3) := by decide +kernel
theorem dX6_copy_78 : decode cX6_copy 78 = .ok (.ifCond .ne 20, 3) := by decide +kernel
theorem dX6_copy_81 : decode cX6_copy 81 = .ok (.iload 4, 2) := by decide +kernel
theorem dX6_copy_83 : decode cX6_copy 83 = .ok (.iload 5, 2) := by decide +kernel
theorem dX6_copy_85 : decode cX6_copy 85 = .ok (.i2l, 1) := by decide +kernel
theorem dX6_copy_86 : decode cX6_copy 86 = .ok (.aload_n 0, 1) := by decide +kernel
theorem dX6_copy_87 : decode cX6_copy 87 = .ok (.getfield 51, 3) := by decide +kernel
theorem dX6_copy_90 : decode cX6_copy 90 = .ok (.iload_n 3, 1) := by decide +kernel
theorem dX6_copy_91 : decode cX6_copy 91 = .ok (.iaload, 1) := by decide +kernel
theorem dX6_copy_92 : decode cX6_copy 92 = .ok (.invokestatic 105, 3) := by decide +kernel
theorem dX6_copy_95 : decode cX6_copy 95 = .ok (.ifCond .eq 9, 3) := by decide +kernel
theorem dX6_copy_98 : decode cX6_copy 98 = .ok (.aload_n 0, 1) := by decide +kernel
theorem dX6_copy_99 : decode cX6_copy 99 = .ok (.iconst 3, 1) := by decide +kernel
theorem dX6_copy_100 : decode cX6_copy 100 = .ok (.invokevirtual 101, 3) := by decide +kernel
theorem dX6_copy_103 : decode cX6_copy 103 = .ok (.ireturn, 1) := by decide +kernel
theorem dX6_copy_104 : decode cX6_copy 104 = .ok (.iconst 0, 1) := by decide +kernel
theorem dX6_copy_105 : decode cX6_copy 105 = .ok (.istore 6, 2) := by decide +kernel
theorem dX6_copy_107 : decode cX6_copy 107 = .ok (.iload 6, 2) := by decide +kernel
theorem dX6_copy_109 : decode cX6_copy 109 = .ok (.iload 5, 2) := by decide +kernel
theorem dX6_copy_111 : decode cX6_copy 111 = .ok (.if_icmp .ge 30, 3) := by decide +kernel
theorem dX6_copy_114 : decode cX6_copy 114 = .ok (.aload_n 0, 1) := by decide +kernel
theorem dX6_copy_115 : decode cX6_copy 115 = .ok (.getfield 60, 3) := by decide +kernel
theorem dX6_copy_118 : decode cX6_copy 118 = .ok (.iload 6, 2) := by decide +kernel
theorem dX6_copy_120 : decode cX6_copy 120 = .ok (.aload_n 0, 1) := by decide +kernel
theorem dX6_copy_121 : decode cX6_copy 121 = .ok (.getfield 57, 3) := by decide +kernel
theorem dX6_copy_124 : decode cX6_copy 124 = .ok (.bipush 60, 2) := by decide +kernel
theorem dX6_copy_126 : decode cX6_copy 126 = .ok (.iload_n 1, 1) := by decide +kernel
theorem dX6_copy_127 : decode cX6_copy 127 = .ok (.imul, 1) := by decide +kernel
theorem dX6_copy_128 : decode cX6_copy 128 = .ok (.iload_n 2, 1) := by decide +kernel
theorem dX6_copy_129 : decode cX6_copy 129 = .ok (.iadd, 1) := by decide +kernel
theorem dX6_copy_130 : decode cX6_copy 130 = .ok (.iload 6, 2) := by decide +kernel
theorem dX6_copy_132 : decode cX6_copy 132 = .ok (.iadd, 1) := by decide +kernel
theorem dX6_copy_133 : decode cX6_copy 133 = .ok (.iaload, 1) := by decide +kernel
theorem dX6_copy_134 : decode cX6_copy 134 = .ok (.iastore, 1) := by decide +kernel
theorem dX6_copy_135 : decode cX6_copy 135 = .ok (.iinc 6 1, 3) := by decide +kernel
theorem dX6_copy_138 : decode cX6_copy 138 = .ok (.goto (-31), 3) := by decide +kernel
theorem dX6_copy_141 : decode cX6_copy 141 = .ok (.iconst 0, 1) := by decide +kernel
theorem dX6_copy_142 : decode cX6_copy 142 = .ok (.istore 6, 2) := by decide +kernel
theorem dX6_copy_144 : decode cX6_copy 144 = .ok (.iload 6, 2) := by decide +kernel
theorem dX6_copy_146 : decode cX6_copy 146 = .ok (.iload 5, 2) := by decide +kernel
theorem dX6_copy_148 : decode cX6_copy 148 = .ok (.if_icmp .ge 31, 3) := by decide +kernel
theorem dX6_copy_151 : decode cX6_copy 151 = .ok (.aload_n 0, 1) := by decide +kernel
theorem dX6_copy_152 : decode cX6_copy 152 = .ok (.getfield 57, 3) := by decide +kernel
theorem dX6_copy_155 : decode cX6_copy 155 = .ok (.bipush 60, 2) := by decide +kernel
theorem dX6_copy_157 : decode cX6_copy 157 = .ok (.iload_n 3, 1) := by decide +kernel
theorem dX6_copy_158 : decode cX6_copy 158 = .ok (.imul, 1) := by decide +kernel
theorem dX6_copy_159 : decode cX6_copy 159 = .ok (.iload 4, 2) := by decide +kernel
theorem dX6_copy_161 : decode cX6_copy 161 = .ok (.iadd, 1) := by decide +kernel
theorem dX6_copy_162 : decode cX6_copy 162 = .ok (.iload 6, 2) := by decide +kernel
theorem dX6_copy_164 : decode cX6_copy 164 = .ok (.iadd, 1) := by decide +kernel
theorem dX6_copy_165 : decode cX6_copy 165 = .ok (.aload_n 0, 1) := by decide +kernel
theorem dX6_copy_166 : decode cX6_copy 166 = .ok (.getfield 60, 3) := by decide +kernel
theorem dX6_copy_169 : decode cX6_copy 169 = .ok (.iload 6, 2) := by decide +kernel
theorem dX6_copy_171 : decode cX6_copy 171 = .ok (.iaload, 1) := by decide +kernel
theorem dX6_copy_172 : decode cX6_copy 172 = .ok (.iastore, 1) := by decide +kernel
theorem dX6_copy_173 : decode cX6_copy 173 = .ok (.iinc 6 1, 3) := by decide +kernel
theorem dX6_copy_176 : decode cX6_copy 176 = .ok (.goto (-32), 3) := by decide +kernel
theorem dX6_copy_179 : decode cX6_copy 179 = .ok (.aload_n 0, 1) := by decide +kernel
theorem dX6_copy_180 : decode cX6_copy 180 = .ok (.iload 5, 2) := by decide +kernel
theorem dX6_copy_182 : decode cX6_copy 182 = .ok (.invokevirtual 113, 3) := by decide +kernel
theorem dX6_copy_185 : decode cX6_copy 185 = .ok (.ireturn, 1) := by decide +kernel
theorem dX6_traced_0 : decode cX6_traced 0 = .ok (.aload_n 0, 1) := by decide +kernel
theorem dX6_traced_1 : decode cX6_traced 1 = .ok (.bipush 31, 2) := by decide +kernel
theorem dX6_traced_3 : decode cX6_traced 3 = .ok (.aload_n 0, 1) := by decide +kernel
theorem dX6_traced_4 : decode cX6_traced 4 = .ok (.getfield 237, 3) := by decide +kernel
theorem dX6_traced_7 : decode cX6_traced 7 = .ok (.imul, 1) := by decide +kernel
theorem dX6_traced_8 : decode cX6_traced 8 = .ok (.iload_n 1, 1) := by decide +kernel
theorem dX6_traced_9 : decode cX6_traced 9 = .ok (.iadd, 1) := by decide +kernel
theorem dX6_traced_10 : decode cX6_traced 10 = .ok (.putfield 237, 3) := by decide +kernel
theorem dX6_traced_13 : decode cX6_traced 13 = .ok (.return_, 1) := by decide +kernel
set_option maxRecDepth 20000 in
theorem ggX6_tell_X6_noReach : GoodIn wsX6_tell wsX6_noReach := goodIn_r _ [7, 8, 9, 10, 6, 11, 17, 18, 19, 20, 21, 22, 23, 24, 25, 26, 27, 28, 29, 30, 31, 32, 33, 34, 35, 36, 37, 38, 39, 40, 41, 42, 43, 44, 45, 46] (by decide +kernel) (by decide +kernel)
set_option maxRecDepth 20000 in
theorem gX6_tell_X6_noReach : GoodIn wsX6_tell (wsV RX6 131 RX6 yX6_noReach wsX6_noReach) := goodIn_app (goodIn_of _ (by decide +kernel)) ggX6_tell_X6_noReach
set_option maxRecDepth 20000 in
theorem ggX6_tell_X6_traced : GoodIn wsX6_tell wsX6_traced := goodIn_r _ [15, 16, 17, 18, 19, 20, 21, 22, 23, 24, 25, 26, 27, 28, 29, 30, 31, 32, 33, 34, 35, 36, 37, 38, 39, 40, 41, 42, 43, 44, 45, 46] (by decide +kernel) (by decide +kernel)
set_option maxRecDepth 20000 in
theorem gX6_tell_X6_traced : GoodIn wsX6_tell (wsV RX6 240 RX6 yX6_traced wsX6_traced) := goodIn_app (goodIn_of _ (by decide +kernel)) ggX6_tell_X6_traced
theorem dX6_tell_0 : decode cX6_tell 0 = .ok (.aload_n 0, 1) := by decide +kernel
theorem dX6_tell_1 : decode cX6_tell 1 = .ok (.iload_n 1, 1) := by decide +kernel
theorem dX6_tell_2 : decode cX6_tell 2 = .ok (.invokevirtual 131, 3) := by decide +kernel
theorem dX6_tell_5 : decode cX6_tell 5 = .ok (.ifCond .eq 5, 3) := by decide +kernel
theorem dX6_tell_8 : decode cX6_tell 8 = .ok (.iconst (-1), 1) := by decide +kernel
theorem dX6_tell_9 : decode cX6_tell 9 = .ok (.ireturn, 1) := by decide +kernel
theorem dX6_tell_10 : decode cX6_tell 10 = .ok (.aload_n 0, 1) := by decide +kernel
theorem dX6_tell_11 : decode cX6_tell 11 = .ok (.getfield 7, 3) := by decide +kernel
theorem dX6_tell_14 : decode cX6_tell 14 = .ok (.iload_n 1, 1) := by decide +kernel
theorem dX6_tell_15 : decode cX6_tell 15 = .ok (.iaload, 1) := by decide +kernel
theorem dX6_tell_16 : decode cX6_tell 16 = .ok (.istore_n 2, 1) := by decide +kernel
theorem dX6_tell_17 : decode cX6_tell 17 = .ok (.iload_n 2, 1) := by decide +kernel
theorem dX6_tell_18 : decode cX6_tell 18 = .ok (.iconst 2, 1) := by decide +kernel
theorem dX6_tell_19 : decode cX6_tell 19 = .ok (.if_icmp .ne 8, 3) := by decide +kernel
theorem dX6_tell_22 : decode cX6_tell 22 = .ok (.aload_n 0, 1) := by decide +kernel
theorem dX6_tell_23 : decode cX6_tell 23 = .ok (.iconst 3, 1) := by decide +kernel
theorem dX6_tell_24 : decode cX6_tell 24 = .ok (.invokevirtual 240, 3) := by decide +kernel
theorem dX6_tell_27 : decode cX6_tell 27 = .ok (.iload_n 2, 1) := by decide +kernel
theorem dX6_tell_28 : decode cX6_tell 28 = .ok (.ifCond .le 8, 3) := by decide +kernel
theorem dX6_tell_31 : decode cX6_tell 31 = .ok (.aload_n 0, 1) := by decide +kernel
theorem dX6_tell_32 : decode cX6_tell 32 = .ok (.iconst 2, 1) := by decide +kernel
theorem dX6_tell_33 : decode cX6_tell 33 = .ok (.invokevirtual 240, 3) := by decide +kernel
theorem dX6_tell_36 : decode cX6_tell 36 = .ok (.aload_n 0, 1) := by decide +kernel
theorem dX6_tell_37 : decode cX6_tell 37 = .ok (.iconst 1, 1) := by decide +kernel
theorem dX6_tell_38 : decode cX6_tell 38 = .ok (.invokevirtual 240, 3) := by decide +kernel
theorem dX6_tell_41 : decode cX6_tell 41 = .ok (.iload_n 2, 1) := by decide +kernel
theorem dX6_tell_42 : decode cX6_tell 42 = .ok (.iconst 2, 1) := by decide +kernel
theorem dX6_tell_43 : decode cX6_tell 43 = .ok (.if_icmp .ne 8, 3) := by decide +kernel
theorem dX6_tell_46 : decode cX6_tell 46 = .ok (.aload_n 0, 1) := by decide +kernel
theorem dX6_tell_47 : decode cX6_tell 47 = .ok (.iconst 1, 1) := by decide +kernel
theorem dX6_tell_48 : decode cX6_tell 48 = .ok (.invokevirtual 240, 3) := by decide +kernel
theorem dX6_tell_51 : decode cX6_tell 51 = .ok (.aload_n 0, 1) := by decide +kernel
theorem dX6_tell_52 : decode cX6_tell 52 = .ok (.getfield 16, 3) := by decide +kernel
theorem dX6_tell_55 : decode cX6_tell 55 = .ok (.iload_n 1, 1) := by decide +kernel
theorem dX6_tell_56 : decode cX6_tell 56 = .ok (.iaload, 1) := by decide +kernel
theorem dX6_tell_57 : decode cX6_tell 57 = .ok (.istore_n 3, 1) := by decide +kernel
theorem dX6_tell_58 : decode cX6_tell 58 = .ok (.iload_n 2, 1) := by decide +kernel
theorem dX6_tell_59 : decode cX6_tell 59 = .ok (.ifCond .ne 7, 3) := by decide +kernel
theorem dX6_tell_62 : decode cX6_tell 62 = .ok (.iload_n 3, 1) := by decide +kernel
theorem dX6_tell_63 : decode cX6_tell 63 = .ok (.goto 21, 3) := by decide +kernel
theorem dX6_tell_66 : decode cX6_tell 66 = .ok (.iload_n 2, 1) := by decide +kernel
theorem dX6_tell_67 : decode cX6_tell 67 = .ok (.iconst 1, 1) := by decide +kernel
theorem dX6_tell_68 : decode cX6_tell 68 = .ok (.if_icmp .ne 10, 3) := by decide +kernel
theorem dX6_tell_71 : decode cX6_tell 71 = .ok (.iload_n 3, 1) := by decide +kernel
theorem dX6_tell_72 : decode cX6_tell 72 = .ok (.bipush 100, 2) := by decide +kernel
theorem dX6_tell_74 : decode cX6_tell 74 = .ok (.iadd, 1) := by decide +kernel
theorem dX6_tell_75 : decode cX6_tell 75 = .ok (.goto 9, 3) := by decide +kernel
theorem dX6_tell_78 : decode cX6_tell 78 = .ok (.iconst 2, 1) := by decide +kernel
theorem dX6_tell_79 : decode cX6_tell 79 = .ok (.iload_n 3, 1) := by decide +kernel
theorem dX6_tell_80 : decode cX6_tell 80 = .ok (.imul, 1) := by decide +kernel
theorem dX6_tell_81 : decode cX6_tell 81 = .ok (.bipush 100, 2) := by decide +kernel
theorem dX6_tell_83 : decode cX6_tell 83 = .ok (.iadd, 1) := by decide +kernel
theorem dX6_tell_84 : decode cX6_tell 84 = .ok (.ireturn, 1) := by decide +kernel
set_option maxRecDepth 20000 in
theorem ggX6_flatter_X6_noReach : GoodIn wsX6_flatter wsX6_noReach := goodIn_r _ [6, 7, 8, 9, 5, 10, 16, 17, 18, 19, 20, 21, 22, 23, 24, 25, 26, 27, 28, 29, 30, 31, 32, 33, 34, 35, 36, 37, 38, 39, 40, 41, 42, 43, 44, 45] (by decide +kernel) (by decide +kernel)
set_option maxRecDepth 20000 in
theorem gX6_flatter_X6_noReach : GoodIn wsX6_flatter (wsV RX6 131 RX6 yX6_noReach wsX6_noReach) := goodIn_app (goodIn_of _ (by decide +kernel)) ggX6_flatter_X6_noReach
set_option maxRecDepth 20000 in
theorem ggX6_flatter_X6_traced : GoodIn wsX6_flatter wsX6_traced := goodIn_r _ [14, 15, 16, 17, 18, 19, 20, 21, 22, 23, 24, 25, 26, 27, 28, 29, 30, 31, 32, 33, 34, 35, 36, 37, 38, 39, 40, 41, 42, 43, 44, 45] (by decide +kernel) (by decide +kernel)
set_option maxRecDepth 20000 in
theorem gX6_flatter_X6_traced : GoodIn wsX6_flatter (wsV RX6 240 RX6 yX6_traced wsX6_traced) := goodIn_app (goodIn_of _ (by decide +kernel)) ggX6_flatter_X6_traced
theorem dX6_flatter_0 : decode cX6_flatter 0 = .ok (.aload_n 0, 1) := by decide +kernel
theorem dX6_flatter_1 : decode cX6_flatter 1 = .ok (.iload_n 1, 1) := by decide +kernel
theorem dX6_flatter_2 : decode cX6_flatter 2 = .ok (.invokevirtual 131, 3) := by decide +kernel
theorem dX6_flatter_5 : decode cX6_flatter 5 = .ok (.ifCond .eq 5, 3) := by decide +kernel
theorem dX6_flatter_8 : decode cX6_flatter 8 = .ok (.iconst (-1), 1) := by decide +kernel
theorem dX6_flatter_9 : decode cX6_flatter 9 = .ok (.ireturn, 1) := by decide +kernel
theorem dX6_flatter_10 : decode cX6_flatter 10 = .ok (.aload_n 0, 1) := by decide +kernel
theorem dX6_flatter_11 : decode cX6_flatter 11 = .ok (.aload_n 0, 1) := by decide +kernel
theorem dX6_flatter_12 : decode cX6_flatter 12 = .ok (.getfield 7, 3) := by decide +kernel
theorem dX6_flatter_15 : decode cX6_flatter 15 = .ok (.iload_n 1, 1) := by decide +kernel
theorem dX6_flatter_16 : decode cX6_flatter 16 = .ok (.iaload, 1) := by decide +kernel
theorem dX6_flatter_17 : decode cX6_flatter 17 = .ok (.iconst 2, 1) := by decide +kernel
theorem dX6_flatter_18 : decode cX6_flatter 18 = .ok (.if_icmp .ne 7, 3) := by decide +kernel
theorem dX6_flatter_21 : decode cX6_flatter 21 = .ok (.iconst 5, 1) := by decide +kernel
theorem dX6_flatter_22 : decode cX6_flatter 22 = .ok (.goto 4, 3) := by decide +kernel
theorem dX6_flatter_25 : decode cX6_flatter 25 = .ok (.iconst 4, 1) := by decide +kernel
theorem dX6_flatter_26 : decode cX6_flatter 26 = .ok (.invokevirtual 240, 3) := by decide +kernel
theorem dX6_flatter_29 : decode cX6_flatter 29 = .ok (.aload_n 0, 1) := by decide +kernel
theorem dX6_flatter_30 : decode cX6_flatter 30 = .ok (.getfield 7, 3) := by decide +kernel
theorem dX6_flatter_33 : decode cX6_flatter 33 = .ok (.iload_n 1, 1) := by decide +kernel
theorem dX6_flatter_34 : decode cX6_flatter 34 = .ok (.iaload, 1) := by decide +kernel
theorem dX6_flatter_35 : decode cX6_flatter 35 = .ok (.iconst 2, 1) := by decide +kernel
theorem dX6_flatter_36 : decode cX6_flatter 36 = .ok (.if_icmp .ne 8, 3) := by decide +kernel
theorem dX6_flatter_39 : decode cX6_flatter 39 = .ok (.bipush 70, 2) := by decide +kernel
theorem dX6_flatter_41 : decode cX6_flatter 41 = .ok (.goto 4, 3) := by decide +kernel
theorem dX6_flatter_44 : decode cX6_flatter 44 = .ok (.iload_n 1, 1) := by decide +kernel
theorem dX6_flatter_45 : decode cX6_flatter 45 = .ok (.ireturn, 1) := by decide +kernel
set_option maxRecDepth 20000 in
theorem ggX6_as_X6_noReach : GoodIn wsX6_as wsX6_noReach := goodIn_r _ [7, 8, 9, 10, 6, 11, 21, 22, 23, 24, 25, 26, 27, 28, 29, 30, 31, 32, 33, 34, 35, 36, 37, 38, 39, 40, 41, 42, 43, 44, 45, 46, 47, 48, 49, 50] (by decide +kernel) (by decide +kernel)
set_option maxRecDepth 20000 in
theorem gX6_as_X6_noReach : GoodIn wsX6_as (wsV RX6 131 RX6 yX6_noReach wsX6_noReach) := goodIn_app (goodIn_of _ (by decide +kernel)) ggX6_as_X6_noReach
set_option maxRecDepth 20000 in
theorem ggX6_as_X6_refused : GoodIn wsX6_as wsX6_refused := goodIn_r _ [15, 16, 21, 22, 23, 24, 25, 26, 27, 28, 29, 30, 31, 32, 33, 34, 35, 36, 37, 38, 39, 40, 41, 42, 43, 44, 45, 46, 47, 48, 49, 50] (by decide +kernel) (by decide +kernel)
set_option maxRecDepth 20000 in
theorem gX6_as_X6_refused : GoodIn wsX6_as (wsV RX6 113 RX6 yX6_refused wsX6_refused) := goodIn_app (goodIn_of _ (by decide +kernel)) ggX6_as_X6_refused
set_option maxRecDepth 20000 in
theorem ggX6_as_X6_in : GoodIn wsX6_as wsX6_in := goodIn_r _ [11] (by decide +kernel) (by decide +kernel)
set_option maxRecDepth 20000 in
theorem gX6_as_X6_in : GoodIn wsX6_as (va_wsS RX6 76 yX6_in wsX6_in) := goodIn_app (goodIn_of _ (by decide +kernel)) ggX6_as_X6_in
set_option maxRecDepth 20000 in
theorem ggX6_as_X6_failed : GoodIn wsX6_as wsX6_failed := goodIn_r _ [20, 16, 21, 22, 23, 24, 25, 26, 27, 28, 29, 30, 31, 32, 33, 34, 35, 36, 37, 38, 39, 40, 41, 42, 43, 44, 45, 46, 47, 48, 49, 50] (by decide +kernel) (by decide +kernel)
set_option maxRecDepth 20000 in
theorem gX6_as_X6_failed : GoodIn wsX6_as (wsV RX6 101 RX6 yX6_failed wsX6_failed) := goodIn_app (goodIn_of _ (by decide +kernel)) ggX6_as_X6_failed
theorem dX6_as_0 : decode cX6_as 0 = .ok (.aload_n 0, 1) := by decide +kernel
theorem dX6_as_1 : decode cX6_as 1 = .ok (.iload_n 1, 1) := by decide +kernel
theorem dX6_as_2 : decode cX6_as 2 = .ok (.invokevirtual 131, 3) := by decide +kernel
theorem dX6_as_5 : decode cX6_as 5 = .ok (.ifCond .eq 9, 3) := by decide +kernel
theorem dX6_as_8 : decode cX6_as 8 = .ok (.aload_n 0, 1) := by decide +kernel
theorem dX6_as_9 : decode cX6_as 9 = .ok (.iconst (-1), 1) := by decide +kernel
theorem dX6_as_10 : decode cX6_as 10 = .ok (.invokevirtual 113, 3) := by decide +kernel
theorem dX6_as_13 : decode cX6_as 13 = .ok (.ireturn, 1) := by decide +kernel
theorem dX6_as_14 : decode cX6_as 14 = .ok (.iload_n 2, 1) := by decide +kernel
theorem dX6_as_15 : decode cX6_as 15 = .ok (.i2l, 1) := by decide +kernel
theorem dX6_as_16 : decode cX6_as 16 = .ok (.lconst 0, 1) := by decide +kernel
theorem dX6_as_17 : decode cX6_as 17 = .ok (.ldc2_w 116, 3) := by decide +kernel
theorem dX6_as_20 : decode cX6_as 20 = .ok (.invokestatic 76, 3) := by decide +kernel
theorem dX6_as_23 : decode cX6_as 23 = .ok (.ifCond .ne 10, 3) := by decide +kernel
theorem dX6_as_26 : decode cX6_as 26 = .ok (.aload_n 0, 1) := by decide +kernel
theorem dX6_as_27 : decode cX6_as 27 = .ok (.bipush (-2), 2) := by decide +kernel
theorem dX6_as_29 : decode cX6_as 29 = .ok (.invokevirtual 113, 3) := by decide +kernel
theorem dX6_as_32 : decode cX6_as 32 = .ok (.ireturn, 1) := by decide +kernel
theorem dX6_as_33 : decode cX6_as 33 = .ok (.aload_n 0, 1) := by decide +kernel
theorem dX6_as_34 : decode cX6_as 34 = .ok (.getfield 7, 3) := by decide +kernel
theorem dX6_as_37 : decode cX6_as 37 = .ok (.iload_n 1, 1) := by decide +kernel
theorem dX6_as_38 : decode cX6_as 38 = .ok (.iaload, 1) := by decide +kernel
theorem dX6_as_39 : decode cX6_as 39 = .ok (.iload_n 2, 1) := by decide +kernel
theorem dX6_as_40 : decode cX6_as 40 = .ok (.if_icmp .lt 11, 3) := by decide +kernel
theorem dX6_as_43 : decode cX6_as 43 = .ok (.aload_n 0, 1) := by decide +kernel
theorem dX6_as_44 : decode cX6_as 44 = .ok (.iconst 1, 1) := by decide +kernel
theorem dX6_as_45 : decode cX6_as 45 = .ok (.invokevirtual 113, 3) := by decide +kernel
theorem dX6_as_48 : decode cX6_as 48 = .ok (.goto 8, 3) := by decide +kernel
theorem dX6_as_51 : decode cX6_as 51 = .ok (.aload_n 0, 1) := by decide +kernel
theorem dX6_as_52 : decode cX6_as 52 = .ok (.iconst 2, 1) := by decide +kernel
theorem dX6_as_53 : decode cX6_as 53 = .ok (.invokevirtual 101, 3) := by decide +kernel
theorem dX6_as_56 : decode cX6_as 56 = .ok (.ireturn, 1) := by decide +kernel
theorem dX6_trace_0 : decode cX6_trace 0 = .ok (.aload_n 0, 1) := by decide +kernel
theorem dX6_trace_1 : decode cX6_trace 1 = .ok (.getfield 237, 3) := by decide +kernel
theorem dX6_trace_4 : decode cX6_trace 4 = .ok (.ireturn, 1) := by decide +kernel
theorem dX6_fault_0 : decode cX6_fault 0 = .ok (.aload_n 0, 1) := by decide +kernel
theorem dX6_fault_1 : decode cX6_fault 1 = .ok (.getfield 65, 3) := by decide +kernel
theorem dX6_fault_4 : decode cX6_fault 4 = .ok (.ireturn, 1) := by decide +kernel
theorem dX6_allLevels_0 : decode cX6_allLevels 0 = .ok (.iconst 0, 1) := by decide +kernel
theorem dX6_allLevels_1 : decode cX6_allLevels 1 = .ok (.istore_n 1, 1) := by decide +kernel
theorem dX6_allLevels_2 : decode cX6_allLevels 2 = .ok (.iconst 0, 1) := by decide +kernel
theorem dX6_allLevels_3 : decode cX6_allLevels 3 = .ok (.istore_n 2, 1) := by decide +kernel
theorem dX6_allLevels_4 : decode cX6_allLevels 4 = .ok (.iload_n 2, 1) := by decide +kernel
theorem dX6_allLevels_5 : decode cX6_allLevels 5 = .ok (.aload_n 0, 1) := by decide +kernel
theorem dX6_allLevels_6 : decode cX6_allLevels 6 = .ok (.getfield 73, 3) := by decide +kernel
theorem dX6_allLevels_9 : decode cX6_allLevels 9 = .ok (.if_icmp .ge 18, 3) := by decide +kernel
theorem dX6_allLevels_12 : decode cX6_allLevels 12 = .ok (.iload_n 1, 1) := by decide +kernel
theorem dX6_allLevels_13 : decode cX6_allLevels 13 = .ok (.aload_n 0, 1) := by decide +kernel
theorem dX6_allLevels_14 : decode cX6_allLevels 14 = .ok (.getfield 13, 3) := by decide +kernel
theorem dX6_allLevels_17 : decode cX6_allLevels 17 = .ok (.iload_n 2, 1) := by decide +kernel
theorem dX6_allLevels_18 : decode cX6_allLevels 18 = .ok (.iaload, 1) := by decide +kernel
theorem dX6_allLevels_19 : decode cX6_allLevels 19 = .ok (.iadd, 1) := by decide +kernel
theorem dX6_allLevels_20 : decode cX6_allLevels 20 = .ok (.istore_n 1, 1) := by decide +kernel
theorem dX6_allLevels_21 : decode cX6_allLevels 21 = .ok (.iinc 2 1, 3) := by decide +kernel
theorem dX6_allLevels_24 : decode cX6_allLevels 24 = .ok (.goto (-20), 3) := by decide +kernel
theorem dX6_allLevels_27 : decode cX6_allLevels 27 = .ok (.iload_n 1, 1) := by decide +kernel
theorem dX6_allLevels_28 : decode cX6_allLevels 28 = .ok (.ireturn, 1) := by decide +kernel
set_option maxRecDepth 20000 in
theorem ggX6_many_X6_allLevels : GoodIn wsX6_many wsX6_allLevels := goodIn_r _ [8, 1, 9, 10, 11, 12, 13, 14, 15, 16, 17, 18, 19, 20, 21, 22, 23, 24, 25, 26, 27, 28, 29, 30, 31, 32, 33, 34, 35, 36, 37, 38, 39] (by decide +kernel) (by decide +kernel)
set_option maxRecDepth 20000 in
theorem gX6_many_X6_allLevels : GoodIn wsX6_many (wsV RX6 243 RX6 yX6_allLevels wsX6_allLevels) := goodIn_app (goodIn_of _ (by decide +kernel)) ggX6_many_X6_allLevels
theorem dX6_many_0 : decode cX6_many 0 = .ok (.iload_n 1, 1) := by decide +kernel
theorem dX6_many_1 : decode cX6_many 1 = .ok (.tableswitch 51 0 3 #[31, 36, 41, 46], 31) := by decide +kernel
theorem dX6_many_32 : decode cX6_many 32 = .ok (.aload_n 0, 1) := by decide +kernel
theorem dX6_many_33 : decode cX6_many 33 = .ok (.getfield 73, 3) := by decide +kernel
theorem dX6_many_36 : decode cX6_many 36 = .ok (.ireturn, 1) := by decide +kernel
theorem dX6_many_37 : decode cX6_many 37 = .ok (.aload_n 0, 1) := by decide +kernel
theorem dX6_many_38 : decode cX6_many 38 = .ok (.getfield 125, 3) := by decide +kernel
theorem dX6_many_41 : decode cX6_many 41 = .ok (.ireturn, 1) := by decide +kernel
theorem dX6_many_42 : decode cX6_many 42 = .ok (.aload_n 0, 1) := by decide +kernel
theorem dX6_many_43 : decode cX6_many 43 = .ok (.invokevirtual 243, 3) := by decide +kernel
theorem dX6_many_46 : decode cX6_many 46 = .ok (.ireturn, 1) := by decide +kernel
theorem dX6_many_47 : decode cX6_many 47 = .ok (.aload_n 0, 1) := by decide +kernel
theorem dX6_many_48 : decode cX6_many 48 = .ok (.getfield 128, 3) := by decide +kernel
theorem dX6_many_51 : decode cX6_many 51 = .ok (.ireturn, 1) := by decide +kernel
theorem dX6_many_52 : decode cX6_many 52 = .ok (.bipush (-2), 2) := by decide +kernel
theorem dX6_many_54 : decode cX6_many 54 = .ok (.ireturn, 1) := by decide +kernel
theorem dJ6_bitCount_0f7a4_0 : decode cJ6_bitCount_0f7a4 0 = .ok (.iload_n 0, 1) := by decide +kernel
theorem dJ6_bitCount_0f7a4_1 : decode cJ6_bitCount_0f7a4 1 = .ok (.iload_n 0, 1) := by decide +kernel
theorem dJ6_bitCount_0f7a4_2 : decode cJ6_bitCount_0f7a4 2 = .ok (.iconst 1, 1) := by decide +kernel
theorem dJ6_bitCount_0f7a4_3 : decode cJ6_bitCount_0f7a4 3 = .ok (.iushr, 1) := by decide +kernel
theorem dJ6_bitCount_0f7a4_4 : decode cJ6_bitCount_0f7a4 4 = .ok (.ldc_w 265, 3) := by decide +kernel
theorem dJ6_bitCount_0f7a4_7 : decode cJ6_bitCount_0f7a4 7 = .ok (.iand, 1) := by decide +kernel
theorem dJ6_bitCount_0f7a4_8 : decode cJ6_bitCount_0f7a4 8 = .ok (.isub, 1) := by decide +kernel
theorem dJ6_bitCount_0f7a4_9 : decode cJ6_bitCount_0f7a4 9 = .ok (.istore_n 0, 1) := by decide +kernel
theorem dJ6_bitCount_0f7a4_10 : decode cJ6_bitCount_0f7a4 10 = .ok (.iload_n 0, 1) := by decide +kernel
theorem dJ6_bitCount_0f7a4_11 : decode cJ6_bitCount_0f7a4 11 = .ok (.ldc_w 266, 3) := by decide +kernel
theorem dJ6_bitCount_0f7a4_14 : decode cJ6_bitCount_0f7a4 14 = .ok (.iand, 1) := by decide +kernel
theorem dJ6_bitCount_0f7a4_15 : decode cJ6_bitCount_0f7a4 15 = .ok (.iload_n 0, 1) := by decide +kernel
theorem dJ6_bitCount_0f7a4_16 : decode cJ6_bitCount_0f7a4 16 = .ok (.iconst 2, 1) := by decide +kernel
theorem dJ6_bitCount_0f7a4_17 : decode cJ6_bitCount_0f7a4 17 = .ok (.iushr, 1) := by decide +kernel
theorem dJ6_bitCount_0f7a4_18 : decode cJ6_bitCount_0f7a4 18 = .ok (.ldc_w 266, 3) := by decide +kernel
theorem dJ6_bitCount_0f7a4_21 : decode cJ6_bitCount_0f7a4 21 = .ok (.iand, 1) := by decide +kernel
theorem dJ6_bitCount_0f7a4_22 : decode cJ6_bitCount_0f7a4 22 = .ok (.iadd, 1) := by decide +kernel
theorem dJ6_bitCount_0f7a4_23 : decode cJ6_bitCount_0f7a4 23 = .ok (.istore_n 0, 1) := by decide +kernel
theorem dJ6_bitCount_0f7a4_24 : decode cJ6_bitCount_0f7a4 24 = .ok (.iload_n 0, 1) := by decide +kernel
theorem dJ6_bitCount_0f7a4_25 : decode cJ6_bitCount_0f7a4 25 = .ok (.iload_n 0, 1) := by decide +kernel
theorem dJ6_bitCount_0f7a4_26 : decode cJ6_bitCount_0f7a4 26 = .ok (.iconst 4, 1) := by decide +kernel
theorem dJ6_bitCount_0f7a4_27 : decode cJ6_bitCount_0f7a4 27 = .ok (.iushr, 1) := by decide +kernel
theorem dJ6_bitCount_0f7a4_28 : decode cJ6_bitCount_0f7a4 28 = .ok (.iadd, 1) := by decide +kernel
theorem dJ6_bitCount_0f7a4_29 : decode cJ6_bitCount_0f7a4 29 = .ok (.ldc_w 267, 3) := by decide +kernel
theorem dJ6_bitCount_0f7a4_32 : decode cJ6_bitCount_0f7a4 32 = .ok (.iand, 1) := by decide +kernel
theorem dJ6_bitCount_0f7a4_33 : decode cJ6_bitCount_0f7a4 33 = .ok (.istore_n 0, 1) := by decide +kernel
theorem dJ6_bitCount_0f7a4_34 : decode cJ6_bitCount_0f7a4 34 = .ok (.iload_n 0, 1) := by decide +kernel
theorem dJ6_bitCount_0f7a4_35 : decode cJ6_bitCount_0f7a4 35 = .ok (.iload_n 0, 1) := by decide +kernel
theorem dJ6_bitCount_0f7a4_36 : decode cJ6_bitCount_0f7a4 36 = .ok (.bipush 8, 2) := by decide +kernel
theorem dJ6_bitCount_0f7a4_38 : decode cJ6_bitCount_0f7a4 38 = .ok (.iushr, 1) := by decide +kernel
theorem dJ6_bitCount_0f7a4_39 : decode cJ6_bitCount_0f7a4 39 = .ok (.iadd, 1) := by decide +kernel
theorem dJ6_bitCount_0f7a4_40 : decode cJ6_bitCount_0f7a4 40 = .ok (.istore_n 0, 1) := by decide +kernel
theorem dJ6_bitCount_0f7a4_41 : decode cJ6_bitCount_0f7a4 41 = .ok (.iload_n 0, 1) := by decide +kernel
theorem dJ6_bitCount_0f7a4_42 : decode cJ6_bitCount_0f7a4 42 = .ok (.iload_n 0, 1) := by decide +kernel
theorem dJ6_bitCount_0f7a4_43 : decode cJ6_bitCount_0f7a4 43 = .ok (.bipush 16, 2) := by decide +kernel
theorem dJ6_bitCount_0f7a4_45 : decode cJ6_bitCount_0f7a4 45 = .ok (.iushr, 1) := by decide +kernel
theorem dJ6_bitCount_0f7a4_46 : decode cJ6_bitCount_0f7a4 46 = .ok (.iadd, 1) := by decide +kernel
theorem dJ6_bitCount_0f7a4_47 : decode cJ6_bitCount_0f7a4 47 = .ok (.istore_n 0, 1) := by decide +kernel
theorem dJ6_bitCount_0f7a4_48 : decode cJ6_bitCount_0f7a4 48 = .ok (.iload_n 0, 1) := by decide +kernel
theorem dJ6_bitCount_0f7a4_49 : decode cJ6_bitCount_0f7a4 49 = .ok (.bipush 63, 2) := by decide +kernel
theorem dJ6_bitCount_0f7a4_51 : decode cJ6_bitCount_0f7a4 51 = .ok (.iand, 1) := by decide +kernel
theorem dJ6_bitCount_0f7a4_52 : decode cJ6_bitCount_0f7a4 52 = .ok (.ireturn, 1) := by decide +kernel
theorem dJ9_max_7cf53_0 : decode cJ9_max_7cf53 0 = .ok (.iload_n 0, 1) := by decide +kernel
theorem dJ9_max_7cf53_1 : decode cJ9_max_7cf53 1 = .ok (.iload_n 1, 1) := by decide +kernel
theorem dJ9_max_7cf53_2 : decode cJ9_max_7cf53 2 = .ok (.if_icmp .lt 7, 3) := by decide +kernel
theorem dJ9_max_7cf53_5 : decode cJ9_max_7cf53 5 = .ok (.iload_n 0, 1) := by decide +kernel
theorem dJ9_max_7cf53_6 : decode cJ9_max_7cf53 6 = .ok (.goto 4, 3) := by decide +kernel
theorem dJ9_max_7cf53_9 : decode cJ9_max_7cf53 9 = .ok (.iload_n 1, 1) := by decide +kernel
theorem dJ9_max_7cf53_10 : decode cJ9_max_7cf53 10 = .ok (.ireturn, 1) := by decide +kernel
theorem dJ9_min_7cf53_0 : decode cJ9_min_7cf53 0 = .ok (.iload_n 0, 1) := by decide +kernel
theorem dJ9_min_7cf53_1 : decode cJ9_min_7cf53 1 = .ok (.iload_n 1, 1) := by decide +kernel
theorem dJ9_min_7cf53_2 : decode cJ9_min_7cf53 2 = .ok (.if_icmp .gt 7, 3) := by decide +kernel
theorem dJ9_min_7cf53_5 : decode cJ9_min_7cf53 5 = .ok (.iload_n 0, 1) := by decide +kernel
theorem dJ9_min_7cf53_6 : decode cJ9_min_7cf53 6 = .ok (.goto 4, 3) := by decide +kernel
theorem dJ9_min_7cf53_9 : decode cJ9_min_7cf53 9 = .ok (.iload_n 1, 1) := by decide +kernel
theorem dJ9_min_7cf53_10 : decode cJ9_min_7cf53 10 = .ok (.ireturn, 1) := by decide +kernel
theorem dJ7_fill_53178_0 : decode cJ7_fill_53178 0 = .ok (.iconst 0, 1) := by decide +kernel
theorem dJ7_fill_53178_1 : decode cJ7_fill_53178 1 = .ok (.istore_n 2, 1) := by decide +kernel
theorem dJ7_fill_53178_2 : decode cJ7_fill_53178 2 = .ok (.aload_n 0, 1) := by decide +kernel
theorem dJ7_fill_53178_3 : decode cJ7_fill_53178 3 = .ok (.arraylength, 1) := by decide +kernel
theorem dJ7_fill_53178_4 : decode cJ7_fill_53178 4 = .ok (.istore_n 3, 1) := by decide +kernel
theorem dJ7_fill_53178_5 : decode cJ7_fill_53178 5 = .ok (.iload_n 2, 1) := by decide +kernel
theorem dJ7_fill_53178_6 : decode cJ7_fill_53178 6 = .ok (.iload_n 3, 1) := by decide +kernel
theorem dJ7_fill_53178_7 : decode cJ7_fill_53178 7 = .ok (.if_icmp .ge 13, 3) := by decide +kernel
theorem dJ7_fill_53178_10 : decode cJ7_fill_53178 10 = .ok (.aload_n 0, 1) := by decide +kernel
theorem dJ7_fill_53178_11 : decode cJ7_fill_53178 11 = .ok (.iload_n 2, 1) := by decide +kernel
theorem dJ7_fill_53178_12 : decode cJ7_fill_53178 12 = .ok (.iload_n 1, 1) := by decide +kernel
theorem dJ7_fill_53178_13 : decode cJ7_fill_53178 13 = .ok (.iastore, 1) := by decide +kernel
theorem dJ7_fill_53178_14 : decode cJ7_fill_53178 14 = .ok (.iinc 2 1, 3) := by decide +kernel
theorem dJ7_fill_53178_17 : decode cJ7_fill_53178 17 = .ok (.goto (-12), 3) := by decide +kernel
theorem dJ7_fill_53178_20 : decode cJ7_fill_53178 20 = .ok (.return_, 1) := by decide +kernel
set_option maxRecDepth 20000 in
theorem ggL_law_X5_init : GoodIn wsL_law wsX5_init := goodIn_r _ [8, 9, 10, 11, 12, 13, 14, 15, 16, 17, 18, 19, 20, 21, 22, 23, 24, 25, 26, 27, 28, 29, 30, 31, 32, 33, 34, 35, 36, 37, 38, 39, 40, 41, 42, 43, 44, 45, 46, 47, 48, 49, 50, 51, 52, 53, 54, 55, 56, 766, 767, 768, 769, 770, 771, 772, 803, 804, 805, 806, 807, 808, 809, 810, 811, 812, 813, 814, 815, 816, 817, 818, 819, 820, 821, 822, 823, 824, 825, 826, 827] (by decide +kernel) (by decide +kernel)
set_option maxRecDepth 20000 in
theorem gL_law_X5_init : GoodIn wsL_law (wsX5_init) := ggL_law_X5_init
set_option maxRecDepth 20000 in
theorem ggL_law_X6_init : GoodIn wsL_law wsX6_init := goodIn_r _ [59, 60, 10, 11, 32, 61, 62, 63, 64, 65, 66, 67, 68, 69, 70, 71, 72, 73, 41, 74, 75, 76, 77, 78, 773, 774, 775, 776, 777, 778, 779, 780, 781, 782, 783, 784, 785, 786, 787, 788, 789, 790, 791, 792, 793, 794, 795, 796, 797, 798, 799, 800, 801, 802] (by decide +kernel) (by decide +kernel)
set_option maxRecDepth 20000 in
theorem gL_law_X6_init : GoodIn wsL_law (wsX6_init) := ggL_law_X6_init
set_option maxRecDepth 20000 in
theorem ggL_law_X5_canal : GoodIn wsL_law wsX5_canal := goodIn_r _ [82, 83, 17, 22, 84, 85, 86, 87, 88, 2, 89, 13, 90, 91, 92, 93, 94, 95, 28, 96, 97, 98, 99, 100, 101, 102, 103, 56, 104, 105, 106, 107, 108, 109, 110, 111, 112, 113, 114, 115, 116, 117, 118, 119, 120, 121, 122, 123, 124, 125, 126, 127, 128, 129, 130, 131, 132, 133, 16, 134, 33, 34, 35, 135, 136, 137, 138, 139, 766, 767, 768, 769, 770, 771, 772, 808, 809, 810, 811, 803, 804, 805, 806, 807, 824, 825, 826, 827] (by decide +kernel) (by decide +kernel)
set_option maxRecDepth 20000 in
theorem gL_law_X5_canal : GoodIn wsL_law (wsV RL 13 RX5 yX5_canal wsX5_canal) := goodIn_app (goodIn_of _ (by decide +kernel)) ggL_law_X5_canal
set_option maxRecDepth 20000 in
theorem ggL_law_X6_canal : GoodIn wsL_law wsX6_canal := goodIn_r _ [143, 144, 145, 146, 147, 148, 149, 61, 64, 62, 65, 63, 66, 150, 151, 152, 5, 153, 154, 155, 156, 157, 158, 159, 160, 161, 162, 163, 164, 165, 166, 75, 76, 167, 168, 169, 170, 171, 172, 173, 174, 175, 176, 177, 178, 179, 180, 181, 77, 182, 183, 184, 185, 186, 187, 188, 189, 773, 774, 775, 776, 777, 778, 779, 780, 781, 782, 783, 784, 785, 786, 787, 788, 789, 790, 791, 792, 793, 794, 795, 796, 797, 798, 799, 800, 801, 802] (by decide +kernel) (by decide +kernel)
set_option maxRecDepth 20000 in
theorem gL_law_X6_canal : GoodIn wsL_law (wsV RL 17 RX6 yX6_canal wsX6_canal) := goodIn_app (goodIn_of _ (by decide +kernel)) ggL_law_X6_canal
set_option maxRecDepth 20000 in
theorem ggL_law_X5_ofReach : GoodIn wsL_law wsX5_ofReach := goodIn_r _ [193, 17, 194, 136, 137, 16, 138, 139, 195, 196, 197, 198, 33, 135, 199, 200, 201, 202, 34, 203, 204, 205, 206, 35, 207, 208, 209, 210, 211, 212, 114, 213, 214, 215, 766, 767, 768, 769, 770, 771, 772, 803, 804, 805, 806, 807] (by decide +kernel) (by decide +kernel)
set_option maxRecDepth 20000 in
theorem gL_law_X5_ofReach : GoodIn wsL_law (wsV RL 18 RX5 yX5_ofReach wsX5_ofReach) := goodIn_app (goodIn_of _ (by decide +kernel)) ggL_law_X5_ofReach
set_option maxRecDepth 20000 in
theorem ggL_law_X6_ofReach : GoodIn wsL_law wsX6_ofReach := goodIn_r _ [219, 61, 62, 63, 220, 221, 222, 5, 223, 149, 155, 156, 157, 224, 225, 226, 227, 773, 774, 775, 776, 777, 778, 779, 780, 781, 782, 783, 784, 785, 786, 787, 788, 789, 790, 791, 792, 793, 794, 795, 796, 797, 798, 799, 800, 801, 802] (by decide +kernel) (by decide +kernel)
set_option maxRecDepth 20000 in
theorem gL_law_X6_ofReach : GoodIn wsL_law (wsV RL 22 RX6 yX6_ofReach wsX6_ofReach) := goodIn_app (goodIn_of _ (by decide +kernel)) ggL_law_X6_ofReach
set_option maxRecDepth 20000 in
theorem ggL_law_X5_fill : GoodIn wsL_law wsX5_fill := goodIn_r _ [231, 17, 194, 136, 137, 16, 138, 139, 232, 233, 2, 234, 199, 200, 201, 202, 34, 135, 235, 132, 133, 134, 33, 35, 766, 767, 768, 769, 770, 771, 772, 803, 804, 805, 806, 807] (by decide +kernel) (by decide +kernel)
set_option maxRecDepth 20000 in
theorem gL_law_X5_fill : GoodIn wsL_law (wsV RL 23 RX5 yX5_fill wsX5_fill) := goodIn_app (goodIn_of _ (by decide +kernel)) ggL_law_X5_fill
set_option maxRecDepth 20000 in
theorem ggL_law_X6_fill : GoodIn wsL_law wsX6_fill := goodIn_r _ [239, 240, 62, 220, 221, 222, 5, 223, 149, 155, 156, 157, 773, 774, 775, 776, 777, 778, 779, 780, 781, 782, 783, 784, 785, 786, 787, 788, 789, 790, 791, 792, 793, 794, 795, 796, 797, 798, 799, 800, 801, 802] (by decide +kernel) (by decide +kernel)
set_option maxRecDepth 20000 in
theorem gL_law_X6_fill : GoodIn wsL_law (wsV RL 26 RX6 yX6_fill wsX6_fill) := goodIn_app (goodIn_of _ (by decide +kernel)) ggL_law_X6_fill
set_option maxRecDepth 20000 in
theorem ggL_law_X5_rain : GoodIn wsL_law wsX5_rain := goodIn_r _ [244, 17, 245, 232, 233, 2, 234, 246, 247, 248, 16, 249, 139, 766, 767, 768, 769, 770, 771, 772, 803, 804, 805, 806, 807] (by decide +kernel) (by decide +kernel)
set_option maxRecDepth 20000 in
theorem gL_law_X5_rain : GoodIn wsL_law (wsV RL 27 RX5 yX5_rain wsX5_rain) := goodIn_app (goodIn_of _ (by decide +kernel)) ggL_law_X5_rain
set_option maxRecDepth 20000 in
theorem ggL_law_X6_rain : GoodIn wsL_law wsX6_rain := goodIn_r _ [253, 154, 149, 147, 155, 156, 5, 157, 773, 774, 775, 776, 777, 778, 779, 780, 781, 782, 783, 784, 785, 786, 787, 788, 789, 790, 791, 792, 793, 794, 795, 796, 797, 798, 799, 800, 801, 802] (by decide +kernel) (by decide +kernel)
set_option maxRecDepth 20000 in
theorem gL_law_X6_rain : GoodIn wsL_law (wsV RL 31 RX6 yX6_rain wsX6_rain) := goodIn_app (goodIn_of _ (by decide +kernel)) ggL_law_X6_rain
set_option maxRecDepth 20000 in
theorem ggL_law_X5_gates : GoodIn wsL_law wsX5_gates := goodIn_r _ [257, 17, 246, 247, 248, 16, 249, 139, 258, 259, 260, 261, 262, 263, 264, 265, 266, 267, 268, 269, 270, 271, 272, 273, 135, 136, 137, 138, 274, 200, 201, 202, 34, 275, 208, 209, 210, 211, 212, 114, 213, 214, 204, 205, 206, 35, 215, 196, 197, 198, 33, 766, 767, 768, 769, 770, 771, 772, 803, 804, 805, 806, 807] (by decide +kernel) (by decide +kernel)
set_option maxRecDepth 20000 in
theorem gL_law_X5_gates : GoodIn wsL_law (wsV RL 32 RX5 yX5_gates wsX5_gates) := goodIn_app (goodIn_of _ (by decide +kernel)) ggL_law_X5_gates
set_option maxRecDepth 20000 in
theorem ggL_law_X6_gates : GoodIn wsL_law wsX6_gates := goodIn_r _ [279, 149, 280, 281, 282, 5, 283, 67, 62, 284, 285, 286, 287, 288, 289, 290, 291, 224, 225, 226, 227, 63, 61, 773, 774, 775, 776, 777, 778, 779, 780, 781, 782, 783, 784, 785, 786, 787, 788, 789, 790, 791, 792, 793, 794, 795, 796, 797, 798, 799, 800, 801, 802] (by decide +kernel) (by decide +kernel)
set_option maxRecDepth 20000 in
theorem gL_law_X6_gates : GoodIn wsL_law (wsV RL 36 RX6 yX6_gates wsX6_gates) := goodIn_app (goodIn_of _ (by decide +kernel)) ggL_law_X6_gates
set_option maxRecDepth 20000 in
theorem ggL_law_X5_open : GoodIn wsL_law wsX5_open := goodIn_r _ [295, 17, 296, 271, 272, 16, 273, 135, 136, 137, 138, 139, 262, 263, 264, 265, 297, 267, 268, 269, 270, 274, 200, 201, 202, 34, 275, 208, 209, 210, 211, 212, 114, 213, 214, 204, 205, 206, 35, 215, 196, 197, 198, 33, 298, 299, 300, 301, 302, 132, 133, 134, 199, 766, 767, 768, 769, 770, 771, 772, 803, 804, 805, 806, 807] (by decide +kernel) (by decide +kernel)
set_option maxRecDepth 20000 in
theorem gL_law_X5_open : GoodIn wsL_law (wsV RL 37 RX5 yX5_open wsX5_open) := goodIn_app (goodIn_of _ (by decide +kernel)) ggL_law_X5_open
set_option maxRecDepth 20000 in
theorem ggL_law_X6_open : GoodIn wsL_law wsX6_open := goodIn_r _ [306, 149, 144, 62, 155, 156, 5, 157, 280, 281, 282, 283, 67, 307, 308, 309, 310, 311, 312, 313, 314, 147, 288, 289, 290, 291, 224, 225, 226, 227, 63, 61, 315, 316, 317, 318, 773, 774, 775, 776, 777, 778, 779, 780, 781, 782, 783, 784, 785, 786, 787, 788, 789, 790, 791, 792, 793, 794, 795, 796, 797, 798, 799, 800, 801, 802] (by decide +kernel) (by decide +kernel)
set_option maxRecDepth 20000 in
theorem gL_law_X6_open : GoodIn wsL_law (wsV RL 40 RX6 yX6_open wsX6_open) := goodIn_app (goodIn_of _ (by decide +kernel)) ggL_law_X6_open
set_option maxRecDepth 20000 in
theorem ggL_law_X5_nights : GoodIn wsL_law wsX5_nights := goodIn_r _ [322, 17, 232, 233, 2, 234, 246, 247, 248, 16, 249, 139, 323, 324, 325, 326, 327, 328, 113, 114, 115, 211, 212, 213, 274, 200, 201, 202, 34, 135, 136, 137, 138, 302, 132, 133, 134, 33, 35, 262, 263, 264, 265, 199, 766, 767, 768, 769, 770, 771, 772, 803, 804, 805, 806, 807] (by decide +kernel) (by decide +kernel)
set_option maxRecDepth 20000 in
theorem gL_law_X5_nights : GoodIn wsL_law (wsV RL 41 RX5 yX5_nights wsX5_nights) := goodIn_app (goodIn_of _ (by decide +kernel)) ggL_law_X5_nights
set_option maxRecDepth 20000 in
theorem ggL_law_X6_nights : GoodIn wsL_law wsX6_nights := goodIn_r _ [332, 333, 149, 62, 155, 156, 5, 157, 280, 281, 282, 283, 67, 311, 312, 313, 314, 147, 315, 316, 317, 318, 773, 774, 775, 776, 777, 778, 779, 780, 781, 782, 783, 784, 785, 786, 787, 788, 789, 790, 791, 792, 793, 794, 795, 796, 797, 798, 799, 800, 801, 802] (by decide +kernel) (by decide +kernel)
set_option maxRecDepth 20000 in
theorem gL_law_X6_nights : GoodIn wsL_law (wsV RL 44 RX6 yX6_nights wsX6_nights) := goodIn_app (goodIn_of _ (by decide +kernel)) ggL_law_X6_nights
set_option maxRecDepth 20000 in
theorem ggL_law_X5_acts : GoodIn wsL_law wsX5_acts := goodIn_r _ [337, 83, 17, 18, 86, 87, 88, 2, 89, 13, 90, 91, 92, 232, 233, 234, 338, 339, 340, 246, 247, 248, 16, 249, 139, 93, 94, 95, 28, 96, 97, 98, 99, 100, 101, 102, 103, 56, 104, 105, 106, 107, 341, 342, 343, 344, 345, 117, 118, 119, 346, 263, 264, 265, 347, 348, 349, 350, 327, 215, 196, 197, 198, 33, 135, 136, 137, 138, 302, 132, 133, 134, 34, 35, 274, 200, 201, 202, 214, 204, 205, 206, 351, 352, 353, 354, 323, 324, 325, 326, 328, 113, 114, 115, 211, 212, 213, 262, 297, 267, 268, 269, 270, 271, 272, 273, 275, 208, 209, 210, 298, 299, 300, 301, 355, 356, 357, 358, 359, 360, 361, 362, 363, 364, 365, 366, 258, 259, 260, 261, 266, 194, 199, 766, 767, 768, 769, 770, 771, 772, 803, 804, 805, 806, 807, 824, 825, 826, 827] (by decide +kernel) (by decide +kernel)
set_option maxRecDepth 20000 in
theorem gL_law_X5_acts : GoodIn wsL_law (wsV RL 45 RX5 yX5_acts wsX5_acts) := goodIn_app (goodIn_of _ (by decide +kernel)) ggL_law_X5_acts
set_option maxRecDepth 20000 in
theorem ggL_law_X6_acts : GoodIn wsL_law wsX6_acts := goodIn_r _ [370, 154, 371, 372, 144, 333, 149, 77, 151, 152, 5, 153, 155, 156, 157, 158, 159, 160, 161, 162, 163, 164, 165, 166, 75, 76, 167, 168, 169, 170, 171, 172, 173, 373, 374, 375, 376, 377, 378, 280, 281, 282, 283, 67, 62, 307, 308, 309, 310, 311, 312, 313, 314, 147, 288, 289, 290, 291, 224, 225, 226, 227, 63, 61, 379, 380, 381, 382, 220, 221, 222, 223, 383, 384, 385, 386, 284, 285, 286, 287, 773, 774, 775, 776, 777, 778, 779, 780, 781, 782, 783, 784, 785, 786, 787, 788, 789, 790, 791, 792, 793, 794, 795, 796, 797, 798, 799, 800, 801, 802] (by decide +kernel) (by decide +kernel)
set_option maxRecDepth 20000 in
theorem gL_law_X6_acts : GoodIn wsL_law (wsV RL 49 RX6 yX6_acts wsX6_acts) := goodIn_app (goodIn_of _ (by decide +kernel)) ggL_law_X6_acts
set_option maxRecDepth 20000 in
theorem ggL_law_X5_boat : GoodIn wsL_law wsX5_boat := goodIn_r _ [390, 17, 26, 194, 136, 137, 16, 138, 139, 391, 392, 2, 393, 394, 395, 396, 25, 397, 398, 399, 400, 401, 402, 403, 404, 405, 406, 407, 408, 52, 409, 263, 264, 265, 410, 200, 201, 202, 34, 135, 411, 412, 413, 414, 208, 209, 210, 211, 212, 114, 213, 214, 204, 205, 206, 35, 215, 196, 197, 198, 33, 415, 416, 417, 418, 419, 420, 421, 422, 423, 424, 425, 426, 50, 427, 48, 428, 429, 430, 431, 47, 432, 433, 434, 435, 436, 437, 438, 439, 440, 441, 442, 443, 444, 445, 446, 447, 448, 449, 450, 451, 452, 453, 454, 455, 113, 115, 456, 457, 458, 459, 460, 461, 462, 463, 49, 464, 465, 466, 467, 766, 767, 768, 769, 770, 771, 772, 803, 804, 805, 806, 807, 812, 813, 814, 815, 816, 817, 818, 819, 820, 821, 822, 823] (by decide +kernel) (by decide +kernel)
set_option maxRecDepth 20000 in
theorem gL_law_X5_boat : GoodIn wsL_law (wsV RL 50 RX5 yX5_boat wsX5_boat) := goodIn_app (goodIn_of _ (by decide +kernel)) ggL_law_X5_boat
set_option maxRecDepth 20000 in
theorem ggL_law_X6_boat : GoodIn wsL_law wsX6_boat := goodIn_r _ [471, 472, 473, 220, 221, 222, 5, 223, 149, 155, 156, 157, 474, 475, 476, 477, 68, 69, 478, 479, 70, 280, 281, 282, 283, 67, 62, 480, 481, 482, 483, 484, 485, 486, 487, 488, 489, 490, 491, 492, 493, 494, 495, 496, 497, 498, 499, 500, 71, 501, 502, 503, 504, 307, 308, 309, 310, 311, 312, 313, 314, 147, 288, 289, 290, 291, 224, 225, 226, 227, 63, 61, 505, 506, 507, 508, 773, 774, 775, 776, 777, 778, 779, 780, 781, 782, 783, 784, 785, 786, 787, 788, 789, 790, 791, 792, 793, 794, 795, 796, 797, 798, 799, 800, 801, 802] (by decide +kernel) (by decide +kernel)
set_option maxRecDepth 20000 in
theorem gL_law_X6_boat : GoodIn wsL_law (wsV RL 54 RX6 yX6_boat wsX6_boat) := goodIn_app (goodIn_of _ (by decide +kernel)) ggL_law_X6_boat
set_option maxRecDepth 20000 in
theorem ggL_law_X5_raise : GoodIn wsL_law wsX5_raise := goodIn_r _ [512, 17, 26, 194, 136, 137, 16, 138, 139, 232, 233, 2, 234, 391, 392, 393, 513, 514, 515, 25, 516, 398, 399, 400, 401, 402, 403, 404, 405, 406, 407, 408, 52, 409, 263, 264, 265, 410, 200, 201, 202, 34, 135, 411, 412, 413, 414, 208, 209, 210, 211, 212, 114, 213, 214, 204, 205, 206, 35, 215, 196, 197, 198, 33, 415, 416, 417, 418, 419, 420, 421, 422, 423, 424, 425, 426, 50, 427, 48, 428, 429, 430, 431, 47, 432, 433, 434, 435, 436, 437, 438, 439, 440, 441, 442, 443, 444, 445, 446, 447, 448, 449, 450, 451, 452, 453, 454, 455, 113, 115, 456, 457, 458, 459, 460, 461, 462, 463, 49, 464, 465, 466, 467, 766, 767, 768, 769, 770, 771, 772, 803, 804, 805, 806, 807, 812, 813, 814, 815, 816, 817, 818, 819, 820, 821, 822, 823] (by decide +kernel) (by decide +kernel)
set_option maxRecDepth 20000 in
theorem gL_law_X5_raise : GoodIn wsL_law (wsV RL 55 RX5 yX5_raise wsX5_raise) := goodIn_app (goodIn_of _ (by decide +kernel)) ggL_law_X5_raise
set_option maxRecDepth 20000 in
theorem ggL_law_X6_raise : GoodIn wsL_law wsX6_raise := goodIn_r _ [520, 240, 472, 473, 220, 221, 222, 5, 223, 149, 155, 156, 157, 474, 475, 476, 477, 68, 69, 478, 479, 70, 280, 281, 282, 283, 67, 62, 480, 481, 482, 483, 484, 485, 486, 487, 488, 489, 490, 491, 492, 493, 494, 495, 496, 497, 498, 499, 500, 71, 501, 502, 503, 504, 307, 308, 309, 310, 311, 312, 313, 314, 147, 288, 289, 290, 291, 224, 225, 226, 227, 63, 61, 505, 506, 507, 508, 773, 774, 775, 776, 777, 778, 779, 780, 781, 782, 783, 784, 785, 786, 787, 788, 789, 790, 791, 792, 793, 794, 795, 796, 797, 798, 799, 800, 801, 802] (by decide +kernel) (by decide +kernel)
set_option maxRecDepth 20000 in
theorem gL_law_X6_raise : GoodIn wsL_law (wsV RL 58 RX6 yX6_raise wsX6_raise) := goodIn_app (goodIn_of _ (by decide +kernel)) ggL_law_X6_raise
set_option maxRecDepth 20000 in
theorem ggL_law_X5_reading : GoodIn wsL_law wsX5_reading := goodIn_r _ [524, 17, 22, 84, 194, 136, 137, 16, 138, 139, 232, 233, 2, 234, 525, 526, 527, 21, 528, 529, 39, 40, 42, 766, 767, 768, 769, 770, 771, 772, 808, 809, 810, 811, 803, 804, 805, 806, 807] (by decide +kernel) (by decide +kernel)
set_option maxRecDepth 20000 in
theorem gL_law_X5_reading : GoodIn wsL_law (wsV RL 59 RX5 yX5_reading wsX5_reading) := goodIn_app (goodIn_of _ (by decide +kernel)) ggL_law_X5_reading
set_option maxRecDepth 20000 in
theorem ggL_law_X6_reading : GoodIn wsL_law wsX6_reading := goodIn_r _ [533, 240, 150, 72, 73, 74, 220, 221, 222, 5, 223, 149, 155, 156, 157, 773, 774, 775, 776, 777, 778, 779, 780, 781, 782, 783, 784, 785, 786, 787, 788, 789, 790, 791, 792, 793, 794, 795, 796, 797, 798, 799, 800, 801, 802] (by decide +kernel) (by decide +kernel)
set_option maxRecDepth 20000 in
theorem gL_law_X6_reading : GoodIn wsL_law (wsV RL 63 RX6 yX6_reading wsX6_reading) := goodIn_app (goodIn_of _ (by decide +kernel)) ggL_law_X6_reading
set_option maxRecDepth 20000 in
theorem ggL_law_X5_back : GoodIn wsL_law wsX5_back := goodIn_r _ [537, 22, 84, 232, 233, 2, 234, 766, 767, 768, 769, 770, 771, 772, 808, 809, 810, 811] (by decide +kernel) (by decide +kernel)
set_option maxRecDepth 20000 in
theorem gL_law_X5_back : GoodIn wsL_law (wsV RL 64 RX5 yX5_back wsX5_back) := goodIn_app (goodIn_of _ (by decide +kernel)) ggL_law_X5_back
set_option maxRecDepth 20000 in
theorem ggL_law_X6_back : GoodIn wsL_law wsX6_back := goodIn_r _ [541, 150, 155, 156, 5, 157, 773, 774, 775, 776, 777, 778, 779, 780, 781, 782, 783, 784, 785, 786, 787, 788, 789, 790, 791, 792, 793, 794, 795, 796, 797, 798, 799, 800, 801, 802] (by decide +kernel) (by decide +kernel)
set_option maxRecDepth 20000 in
theorem gL_law_X6_back : GoodIn wsL_law (wsV RL 67 RX6 yX6_back wsX6_back) := goodIn_app (goodIn_of _ (by decide +kernel)) ggL_law_X6_back
set_option maxRecDepth 20000 in
theorem ggL_law_X5_limits : GoodIn wsL_law wsX5_limits := goodIn_r _ [545, 546, 547, 548, 2, 549, 17, 18, 22, 194, 136, 137, 16, 138, 139, 347, 348, 349, 350, 327, 215, 196, 197, 198, 33, 135, 302, 132, 133, 134, 34, 35, 274, 200, 201, 202, 214, 204, 205, 206, 235, 550, 551, 552, 21, 553, 529, 40, 39, 42, 554, 555, 208, 209, 210, 211, 212, 114, 213, 766, 767, 768, 769, 770, 771, 772, 803, 804, 805, 806, 807, 808, 809, 810, 811] (by decide +kernel) (by decide +kernel)
set_option maxRecDepth 20000 in
theorem gL_law_X5_limits : GoodIn wsL_law (wsV RL 68 RX5 yX5_limits wsX5_limits) := goodIn_app (goodIn_of _ (by decide +kernel)) ggL_law_X5_limits
set_option maxRecDepth 20000 in
theorem ggL_law_X6_limits : GoodIn wsL_law wsX6_limits := goodIn_r _ [559, 63, 220, 221, 222, 5, 223, 149, 155, 156, 157, 560, 561, 562, 563, 150, 72, 73, 62, 74, 224, 225, 226, 227, 61, 773, 774, 775, 776, 777, 778, 779, 780, 781, 782, 783, 784, 785, 786, 787, 788, 789, 790, 791, 792, 793, 794, 795, 796, 797, 798, 799, 800, 801, 802] (by decide +kernel) (by decide +kernel)
set_option maxRecDepth 20000 in
theorem gL_law_X6_limits : GoodIn wsL_law (wsV RL 71 RX6 yX6_limits wsX6_limits) := goodIn_app (goodIn_of _ (by decide +kernel)) ggL_law_X6_limits
set_option maxRecDepth 20000 in
theorem ggL_law_X5_kinds : GoodIn wsL_law wsX5_kinds := goodIn_r _ [567, 546, 547, 548, 2, 549, 17, 18, 22, 194, 136, 137, 16, 138, 139, 347, 348, 349, 350, 327, 215, 196, 197, 198, 33, 135, 302, 132, 133, 134, 34, 35, 274, 200, 201, 202, 214, 204, 205, 206, 235, 550, 551, 552, 21, 553, 529, 40, 39, 42, 554, 555, 208, 209, 210, 211, 212, 114, 213, 766, 767, 768, 769, 770, 771, 772, 803, 804, 805, 806, 807, 808, 809, 810, 811] (by decide +kernel) (by decide +kernel)
set_option maxRecDepth 20000 in
theorem gL_law_X5_kinds : GoodIn wsL_law (wsV RL 72 RX5 yX5_kinds wsX5_kinds) := goodIn_app (goodIn_of _ (by decide +kernel)) ggL_law_X5_kinds
set_option maxRecDepth 20000 in
theorem ggL_law_X6_kinds : GoodIn wsL_law wsX6_kinds := goodIn_r _ [571, 61, 220, 221, 222, 5, 223, 149, 155, 156, 157, 560, 561, 562, 563, 150, 72, 73, 62, 74, 224, 225, 226, 227, 63, 773, 774, 775, 776, 777, 778, 779, 780, 781, 782, 783, 784, 785, 786, 787, 788, 789, 790, 791, 792, 793, 794, 795, 796, 797, 798, 799, 800, 801, 802] (by decide +kernel) (by decide +kernel)
set_option maxRecDepth 20000 in
theorem gL_law_X6_kinds : GoodIn wsL_law (wsV RL 75 RX6 yX6_kinds wsX6_kinds) := goodIn_app (goodIn_of _ (by decide +kernel)) ggL_law_X6_kinds
set_option maxRecDepth 20000 in
theorem ggL_law_X5_levels : GoodIn wsL_law wsX5_levels := goodIn_r _ [575, 546, 547, 548, 2, 549, 17, 18, 22, 194, 136, 137, 16, 138, 139, 347, 348, 349, 350, 327, 215, 196, 197, 198, 33, 135, 302, 132, 133, 134, 34, 35, 274, 200, 201, 202, 214, 204, 205, 206, 235, 550, 551, 552, 21, 553, 529, 40, 39, 42, 554, 555, 208, 209, 210, 211, 212, 114, 213, 766, 767, 768, 769, 770, 771, 772, 803, 804, 805, 806, 807, 808, 809, 810, 811] (by decide +kernel) (by decide +kernel)
set_option maxRecDepth 20000 in
theorem gL_law_X5_levels : GoodIn wsL_law (wsV RL 76 RX5 yX5_levels wsX5_levels) := goodIn_app (goodIn_of _ (by decide +kernel)) ggL_law_X5_levels
set_option maxRecDepth 20000 in
theorem ggL_law_X6_levels : GoodIn wsL_law wsX6_levels := goodIn_r _ [579, 62, 220, 221, 222, 5, 223, 149, 155, 156, 157, 560, 561, 562, 563, 150, 72, 73, 74, 224, 225, 226, 227, 63, 61, 773, 774, 775, 776, 777, 778, 779, 780, 781, 782, 783, 784, 785, 786, 787, 788, 789, 790, 791, 792, 793, 794, 795, 796, 797, 798, 799, 800, 801, 802] (by decide +kernel) (by decide +kernel)
set_option maxRecDepth 20000 in
theorem gL_law_X6_levels : GoodIn wsL_law (wsV RL 79 RX6 yX6_levels wsX6_levels) := goodIn_app (goodIn_of _ (by decide +kernel)) ggL_law_X6_levels
set_option maxRecDepth 20000 in
theorem ggL_law_X5_odds : GoodIn wsL_law wsX5_odds := goodIn_r _ [583, 17, 584, 246, 247, 248, 16, 249, 139, 232, 233, 2, 234, 585, 586, 587, 588, 589, 590, 591, 592, 593, 594, 595, 245, 596, 113, 114, 115, 199, 200, 201, 202, 34, 135, 136, 137, 138, 597, 598, 599, 766, 767, 768, 769, 770, 771, 772, 803, 804, 805, 806, 807] (by decide +kernel) (by decide +kernel)
set_option maxRecDepth 20000 in
theorem gL_law_X5_odds : GoodIn wsL_law (wsV RL 80 RX5 yX5_odds wsX5_odds) := goodIn_app (goodIn_of _ (by decide +kernel)) ggL_law_X5_odds
set_option maxRecDepth 20000 in
theorem ggL_law_X6_odds : GoodIn wsL_law wsX6_odds := goodIn_r _ [603, 149, 604, 240, 62, 147, 155, 156, 5, 157, 605, 606, 607, 608, 609, 610, 611, 773, 774, 775, 776, 777, 778, 779, 780, 781, 782, 783, 784, 785, 786, 787, 788, 789, 790, 791, 792, 793, 794, 795, 796, 797, 798, 799, 800, 801, 802] (by decide +kernel) (by decide +kernel)
set_option maxRecDepth 20000 in
theorem gL_law_X6_odds : GoodIn wsL_law (wsV RL 84 RX6 yX6_odds wsX6_odds) := goodIn_app (goodIn_of _ (by decide +kernel)) ggL_law_X6_odds
set_option maxRecDepth 20000 in
theorem ggL_law_X5_sheet : GoodIn wsL_law wsX5_sheet := goodIn_r _ [615, 83, 86, 87, 88, 2, 89, 13, 90, 91, 92, 104, 105, 106, 107, 616, 617, 618, 28, 619, 97, 98, 103, 56, 620, 621, 622, 623, 766, 767, 768, 769, 770, 771, 772, 824, 825, 826, 827] (by decide +kernel) (by decide +kernel)
set_option maxRecDepth 20000 in
theorem gL_law_X5_sheet : GoodIn wsL_law (wsV RL 85 RX5 yX5_sheet wsX5_sheet) := goodIn_app (goodIn_of _ (by decide +kernel)) ggL_law_X5_sheet
set_option maxRecDepth 20000 in
theorem ggL_law_X6_sheet : GoodIn wsL_law wsX6_sheet := goodIn_r _ [627, 144, 75, 76, 77, 151, 152, 5, 153, 154, 155, 156, 157, 158, 159, 160, 161, 162, 167, 168, 169, 170, 773, 774, 775, 776, 777, 778, 779, 780, 781, 782, 783, 784, 785, 786, 787, 788, 789, 790, 791, 792, 793, 794, 795, 796, 797, 798, 799, 800, 801, 802] (by decide +kernel) (by decide +kernel)
set_option maxRecDepth 20000 in
theorem gL_law_X6_sheet : GoodIn wsL_law (wsV RL 88 RX6 yX6_sheet wsX6_sheet) := goodIn_app (goodIn_of _ (by decide +kernel)) ggL_law_X6_sheet
set_option maxRecDepth 20000 in
theorem ggL_law_X5_lose : GoodIn wsL_law wsX5_lose := goodIn_r _ [631, 632, 86, 87, 88, 2, 89, 13, 824, 825, 826, 827, 766, 767, 768, 769, 770, 771, 772] (by decide +kernel) (by decide +kernel)
set_option maxRecDepth 20000 in
theorem gL_law_X5_lose : GoodIn wsL_law (wsV RL 89 RX5 yX5_lose wsX5_lose) := goodIn_app (goodIn_of _ (by decide +kernel)) ggL_law_X5_lose
set_option maxRecDepth 20000 in
theorem ggL_law_X6_lose : GoodIn wsL_law wsX6_lose := goodIn_r _ [636, 75, 151, 152, 5, 153, 154, 155, 156, 157, 773, 774, 775, 776, 777, 778, 779, 780, 781, 782, 783, 784, 785, 786, 787, 788, 789, 790, 791, 792, 793, 794, 795, 796, 797, 798, 799, 800, 801, 802] (by decide +kernel) (by decide +kernel)
set_option maxRecDepth 20000 in
theorem gL_law_X6_lose : GoodIn wsL_law (wsV RL 92 RX6 yX6_lose wsX6_lose) := goodIn_app (goodIn_of _ (by decide +kernel)) ggL_law_X6_lose
set_option maxRecDepth 20000 in
theorem ggL_law_X5_put : GoodIn wsL_law wsX5_put := goodIn_r _ [640, 83, 641, 86, 87, 88, 2, 89, 13, 93, 94, 95, 28, 96, 97, 98, 99, 100, 101, 102, 103, 56, 104, 105, 106, 107, 642, 643, 644, 645, 646, 647, 648, 649, 766, 767, 768, 769, 770, 771, 772, 824, 825, 826, 827] (by decide +kernel) (by decide +kernel)
set_option maxRecDepth 20000 in
theorem gL_law_X5_put : GoodIn wsL_law (wsV RL 93 RX5 yX5_put wsX5_put) := goodIn_app (goodIn_of _ (by decide +kernel)) ggL_law_X5_put
set_option maxRecDepth 20000 in
theorem ggL_law_X6_put : GoodIn wsL_law wsX6_put := goodIn_r _ [653, 77, 76, 151, 152, 5, 153, 154, 155, 156, 157, 158, 159, 160, 161, 162, 654, 655, 656, 657, 75, 167, 168, 169, 170, 773, 774, 775, 776, 777, 778, 779, 780, 781, 782, 783, 784, 785, 786, 787, 788, 789, 790, 791, 792, 793, 794, 795, 796, 797, 798, 799, 800, 801, 802] (by decide +kernel) (by decide +kernel)
set_option maxRecDepth 20000 in
theorem gL_law_X6_put : GoodIn wsL_law (wsV RL 96 RX6 yX6_put wsX6_put) := goodIn_app (goodIn_of _ (by decide +kernel)) ggL_law_X6_put
set_option maxRecDepth 20000 in
theorem ggL_law_X5_cell : GoodIn wsL_law wsX5_cell := goodIn_r _ [661, 83, 584, 86, 87, 88, 2, 89, 13, 90, 91, 92, 93, 94, 95, 28, 96, 97, 98, 99, 100, 101, 102, 103, 56, 345, 117, 118, 119, 766, 767, 768, 769, 770, 771, 772, 824, 825, 826, 827] (by decide +kernel) (by decide +kernel)
set_option maxRecDepth 20000 in
theorem gL_law_X5_cell : GoodIn wsL_law (wsV RL 97 RX5 yX5_cell wsX5_cell) := goodIn_app (goodIn_of _ (by decide +kernel)) ggL_law_X5_cell
set_option maxRecDepth 20000 in
theorem ggL_law_X6_cell : GoodIn wsL_law wsX6_cell := goodIn_r _ [665, 162, 144, 75, 76, 77, 151, 152, 5, 153, 154, 155, 156, 157, 605, 606, 607, 608, 666, 667, 668, 669, 654, 655, 656, 657, 773, 774, 775, 776, 777, 778, 779, 780, 781, 782, 783, 784, 785, 786, 787, 788, 789, 790, 791, 792, 793, 794, 795, 796, 797, 798, 799, 800, 801, 802] (by decide +kernel) (by decide +kernel)
set_option maxRecDepth 20000 in
theorem gL_law_X6_cell : GoodIn wsL_law (wsV RL 100 RX6 yX6_cell wsX6_cell) := goodIn_app (goodIn_of _ (by decide +kernel)) ggL_law_X6_cell
set_option maxRecDepth 20000 in
theorem ggL_law_X5_copy : GoodIn wsL_law wsX5_copy := goodIn_r _ [673, 83, 632, 641, 674, 675, 676, 677, 678, 86, 87, 88, 2, 89, 13, 104, 105, 106, 107, 679, 100, 101, 28, 102, 103, 56, 766, 767, 768, 769, 770, 771, 772, 824, 825, 826, 827] (by decide +kernel) (by decide +kernel)
set_option maxRecDepth 20000 in
theorem gL_law_X5_copy : GoodIn wsL_law (wsV RL 101 RX5 yX5_copy wsX5_copy) := goodIn_app (goodIn_of _ (by decide +kernel)) ggL_law_X5_copy
set_option maxRecDepth 20000 in
theorem ggL_law_X6_copy : GoodIn wsL_law wsX6_copy := goodIn_r _ [683, 75, 76, 78, 77, 151, 152, 5, 153, 154, 155, 156, 157, 158, 159, 160, 161, 162, 167, 168, 169, 170, 171, 172, 173, 773, 774, 775, 776, 777, 778, 779, 780, 781, 782, 783, 784, 785, 786, 787, 788, 789, 790, 791, 792, 793, 794, 795, 796, 797, 798, 799, 800, 801, 802] (by decide +kernel) (by decide +kernel)
set_option maxRecDepth 20000 in
theorem gL_law_X6_copy : GoodIn wsL_law (wsV RL 104 RX6 yX6_copy wsX6_copy) := goodIn_app (goodIn_of _ (by decide +kernel)) ggL_law_X6_copy
set_option maxRecDepth 20000 in
theorem ggL_law_X5_tell : GoodIn wsL_law wsX5_tell := goodIn_r _ [687, 17, 194, 136, 137, 16, 138, 139, 195, 196, 197, 198, 33, 135, 688, 689, 690, 2, 691, 692, 693, 694, 695, 696, 697, 698, 699, 700, 701, 702, 703, 704, 203, 204, 205, 206, 35, 766, 767, 768, 769, 770, 771, 772, 803, 804, 805, 806, 807] (by decide +kernel) (by decide +kernel)
set_option maxRecDepth 20000 in
theorem gL_law_X5_tell : GoodIn wsL_law (wsV RL 105 RX5 yX5_tell wsX5_tell) := goodIn_app (goodIn_of _ (by decide +kernel)) ggL_law_X5_tell
set_option maxRecDepth 20000 in
theorem ggL_law_X6_tell : GoodIn wsL_law wsX6_tell := goodIn_r _ [708, 61, 63, 220, 221, 222, 5, 223, 149, 155, 156, 157, 709, 710, 711, 712, 713, 773, 774, 775, 776, 777, 778, 779, 780, 781, 782, 783, 784, 785, 786, 787, 788, 789, 790, 791, 792, 793, 794, 795, 796, 797, 798, 799, 800, 801, 802] (by decide +kernel) (by decide +kernel)
set_option maxRecDepth 20000 in
theorem gL_law_X6_tell : GoodIn wsL_law (wsV RL 108 RX6 yX6_tell wsX6_tell) := goodIn_app (goodIn_of _ (by decide +kernel)) ggL_law_X6_tell
set_option maxRecDepth 20000 in
theorem ggL_law_X5_flatter : GoodIn wsL_law wsX5_flatter := goodIn_r _ [717, 17, 194, 136, 137, 16, 138, 139, 195, 196, 197, 198, 33, 135, 718, 719, 720, 2, 721, 692, 693, 694, 695, 696, 722, 723, 724, 725, 766, 767, 768, 769, 770, 771, 772, 803, 804, 805, 806, 807] (by decide +kernel) (by decide +kernel)
set_option maxRecDepth 20000 in
theorem gL_law_X5_flatter : GoodIn wsL_law (wsV RL 109 RX5 yX5_flatter wsX5_flatter) := goodIn_app (goodIn_of _ (by decide +kernel)) ggL_law_X5_flatter
set_option maxRecDepth 20000 in
theorem ggL_law_X6_flatter : GoodIn wsL_law wsX6_flatter := goodIn_r _ [729, 61, 220, 221, 222, 5, 223, 149, 155, 156, 157, 709, 710, 711, 712, 713, 773, 774, 775, 776, 777, 778, 779, 780, 781, 782, 783, 784, 785, 786, 787, 788, 789, 790, 791, 792, 793, 794, 795, 796, 797, 798, 799, 800, 801, 802] (by decide +kernel) (by decide +kernel)
set_option maxRecDepth 20000 in
theorem gL_law_X6_flatter : GoodIn wsL_law (wsV RL 112 RX6 yX6_flatter wsX6_flatter) := goodIn_app (goodIn_of _ (by decide +kernel)) ggL_law_X6_flatter
set_option maxRecDepth 20000 in
theorem ggL_law_X5_as : GoodIn wsL_law wsX5_as := goodIn_r _ [733, 83, 17, 194, 136, 137, 16, 138, 139, 232, 233, 2, 234, 195, 196, 197, 198, 33, 135, 104, 105, 106, 107, 766, 767, 768, 769, 770, 771, 772, 803, 804, 805, 806, 807] (by decide +kernel) (by decide +kernel)
set_option maxRecDepth 20000 in
theorem gL_law_X5_as : GoodIn wsL_law (wsV RL 113 RX5 yX5_as wsX5_as) := goodIn_app (goodIn_of _ (by decide +kernel)) ggL_law_X5_as
set_option maxRecDepth 20000 in
theorem ggL_law_X6_as : GoodIn wsL_law wsX6_as := goodIn_r _ [737, 144, 61, 220, 221, 222, 5, 223, 149, 155, 156, 157, 158, 159, 160, 161, 162, 167, 168, 169, 170, 773, 774, 775, 776, 777, 778, 779, 780, 781, 782, 783, 784, 785, 786, 787, 788, 789, 790, 791, 792, 793, 794, 795, 796, 797, 798, 799, 800, 801, 802] (by decide +kernel) (by decide +kernel)
set_option maxRecDepth 20000 in
theorem gL_law_X6_as : GoodIn wsL_law (wsV RL 116 RX6 yX6_as wsX6_as) := goodIn_app (goodIn_of _ (by decide +kernel)) ggL_law_X6_as
set_option maxRecDepth 20000 in
theorem ggL_law_X5_trace : GoodIn wsL_law wsX5_trace := goodIn_r _ [741, 696, 766, 767, 768, 769, 770, 771, 772] (by decide +kernel) (by decide +kernel)
set_option maxRecDepth 20000 in
theorem gL_law_X5_trace : GoodIn wsL_law (wsV RL 117 RX5 yX5_trace wsX5_trace) := goodIn_app (goodIn_of _ (by decide +kernel)) ggL_law_X5_trace
set_option maxRecDepth 20000 in
theorem ggL_law_X6_trace : GoodIn wsL_law wsX6_trace := goodIn_r _ [745, 713, 773, 774, 775, 776, 777, 778, 779, 780, 781, 782, 783, 784, 785, 786, 787, 788, 789, 790, 791, 792, 793, 794, 795, 796, 797, 798, 799, 800, 801, 802] (by decide +kernel) (by decide +kernel)
set_option maxRecDepth 20000 in
theorem gL_law_X6_trace : GoodIn wsL_law (wsV RL 120 RX6 yX6_trace wsX6_trace) := goodIn_app (goodIn_of _ (by decide +kernel)) ggL_law_X6_trace
set_option maxRecDepth 20000 in
theorem ggL_law_X5_fault : GoodIn wsL_law wsX5_fault := goodIn_r _ [749, 83, 766, 767, 768, 769, 770, 771, 772] (by decide +kernel) (by decide +kernel)
set_option maxRecDepth 20000 in
theorem gL_law_X5_fault : GoodIn wsL_law (wsV RL 121 RX5 yX5_fault wsX5_fault) := goodIn_app (goodIn_of _ (by decide +kernel)) ggL_law_X5_fault
set_option maxRecDepth 20000 in
theorem ggL_law_X6_fault : GoodIn wsL_law wsX6_fault := goodIn_r _ [753, 162, 773, 774, 775, 776, 777, 778, 779, 780, 781, 782, 783, 784, 785, 786, 787, 788, 789, 790, 791, 792, 793, 794, 795, 796, 797, 798, 799, 800, 801, 802] (by decide +kernel) (by decide +kernel)
set_option maxRecDepth 20000 in
theorem gL_law_X6_fault : GoodIn wsL_law (wsV RL 124 RX6 yX6_fault wsX6_fault) := goodIn_app (goodIn_of _ (by decide +kernel)) ggL_law_X6_fault
set_option maxRecDepth 20000 in
theorem ggL_law_X5_many : GoodIn wsL_law wsX5_many := goodIn_r _ [757, 17, 85, 245, 22, 84, 359, 360, 361, 16, 362, 139, 274, 200, 201, 202, 34, 135, 136, 137, 138, 766, 767, 768, 769, 770, 771, 772, 803, 804, 805, 806, 807, 808, 809, 810, 811] (by decide +kernel) (by decide +kernel)
set_option maxRecDepth 20000 in
theorem gL_law_X5_many : GoodIn wsL_law (wsV RL 125 RX5 yX5_many wsX5_many) := goodIn_app (goodIn_of _ (by decide +kernel)) ggL_law_X5_many
set_option maxRecDepth 20000 in
theorem ggL_law_X6_many : GoodIn wsL_law wsX6_many := goodIn_r _ [761, 149, 147, 150, 762, 763, 764, 5, 765, 62, 773, 774, 775, 776, 777, 778, 779, 780, 781, 782, 783, 784, 785, 786, 787, 788, 789, 790, 791, 792, 793, 794, 795, 796, 797, 798, 799, 800, 801, 802] (by decide +kernel) (by decide +kernel)
set_option maxRecDepth 20000 in
theorem gL_law_X6_many : GoodIn wsL_law (wsV RL 128 RX6 yX6_many wsX6_many) := goodIn_app (goodIn_of _ (by decide +kernel)) ggL_law_X6_many
theorem dL_law_0 : decode cL_law 0 = .ok (.new 7, 3) := by decide +kernel
theorem dL_law_3 : decode cL_law 3 = .ok (.dup, 1) := by decide +kernel
theorem dL_law_4 : decode cL_law 4 = .ok (.invokespecial 9, 3) := by decide +kernel
theorem dL_law_7 : decode cL_law 7 = .ok (.astore_n 1, 1) := by decide +kernel
theorem dL_law_8 : decode cL_law 8 = .ok (.new 10, 3) := by decide +kernel
theorem dL_law_11 : decode cL_law 11 = .ok (.dup, 1) := by decide +kernel
theorem dL_law_12 : decode cL_law 12 = .ok (.invokespecial 12, 3) := by decide +kernel
theorem dL_law_15 : decode cL_law 15 = .ok (.astore_n 2, 1) := by decide +kernel
theorem dL_law_16 : decode cL_law 16 = .ok (.iconst 0, 1) := by decide +kernel
theorem dL_law_17 : decode cL_law 17 = .ok (.istore_n 3, 1) := by decide +kernel
theorem dL_law_18 : decode cL_law 18 = .ok (.iload_n 3, 1) := by decide +kernel
theorem dL_law_19 : decode cL_law 19 = .ok (.aload_n 0, 1) := by decide +kernel
theorem dL_law_20 : decode cL_law 20 = .ok (.arraylength, 1) := by decide +kernel
theorem dL_law_21 : decode cL_law 21 = .ok (.bipush 6, 2) := by decide +kernel
theorem dL_law_23 : decode cL_law 23 = .ok (.isub, 1) := by decide +kernel
theorem dL_law_24 : decode cL_law 24 = .ok (.if_icmp .gt 1027, 3) := by decide +kernel
theorem dL_law_27 : decode cL_law 27 = .ok (.aload_n 0, 1) := by decide +kernel
theorem dL_law_28 : decode cL_law 28 = .ok (.iload_n 3, 1) := by decide +kernel
theorem dL_law_29 : decode cL_law 29 = .ok (.iaload, 1) := by decide +kernel
theorem dL_law_30 : decode cL_law 30 = .ok (.bipush 31, 2) := by decide +kernel
theorem dL_law_32 : decode cL_law 32 = .ok (.iand, 1) := by decide +kernel
theorem dL_law_33 : decode cL_law 33 = .ok (.tableswitch 1012 0 26 #[123, 176, 209, 242, 265, 278, 301, 324, 387, 430, 473, 532, 555, 578, 601, 624, 668, 711, 734, 777, 821, 884, 907, 930, 963, 976, 989], 123) := by decide +kernel
theorem dL_law_156 : decode cL_law 156 = .ok (.aload_n 1, 1) := by decide +kernel
theorem dL_law_157 : decode cL_law 157 = .ok (.aload_n 0, 1) := by decide +kernel
theorem dL_law_158 : decode cL_law 158 = .ok (.iload_n 3, 1) := by decide +kernel
theorem dL_law_159 : decode cL_law 159 = .ok (.iconst 1, 1) := by decide +kernel
theorem dL_law_160 : decode cL_law 160 = .ok (.iadd, 1) := by decide +kernel
theorem dL_law_161 : decode cL_law 161 = .ok (.iaload, 1) := by decide +kernel
theorem dL_law_162 : decode cL_law 162 = .ok (.aload_n 0, 1) := by decide +kernel
theorem dL_law_163 : decode cL_law 163 = .ok (.iload_n 3, 1) := by decide +kernel
theorem dL_law_164 : decode cL_law 164 = .ok (.iconst 2, 1) := by decide +kernel
theorem dL_law_165 : decode cL_law 165 = .ok (.iadd, 1) := by decide +kernel
theorem dL_law_166 : decode cL_law 166 = .ok (.iaload, 1) := by decide +kernel
theorem dL_law_167 : decode cL_law 167 = .ok (.aload_n 0, 1) := by decide +kernel
theorem dL_law_168 : decode cL_law 168 = .ok (.iload_n 3, 1) := by decide +kernel
theorem dL_law_169 : decode cL_law 169 = .ok (.iconst 3, 1) := by decide +kernel
theorem dL_law_170 : decode cL_law 170 = .ok (.iadd, 1) := by decide +kernel
theorem dL_law_171 : decode cL_law 171 = .ok (.iaload, 1) := by decide +kernel
theorem dL_law_172 : decode cL_law 172 = .ok (.aload_n 0, 1) := by decide +kernel
theorem dL_law_173 : decode cL_law 173 = .ok (.iload_n 3, 1) := by decide +kernel
theorem dL_law_174 : decode cL_law 174 = .ok (.iconst 4, 1) := by decide +kernel
theorem dL_law_175 : decode cL_law 175 = .ok (.iadd, 1) := by decide +kernel
theorem dL_law_176 : decode cL_law 176 = .ok (.iaload, 1) := by decide +kernel
theorem dL_law_177 : decode cL_law 177 = .ok (.invokevirtual 13, 3) := by decide +kernel
theorem dL_law_180 : decode cL_law 180 = .ok (.aload_n 2, 1) := by decide +kernel
theorem dL_law_181 : decode cL_law 181 = .ok (.aload_n 0, 1) := by decide +kernel
theorem dL_law_182 : decode cL_law 182 = .ok (.iload_n 3, 1) := by decide +kernel
theorem dL_law_183 : decode cL_law 183 = .ok (.iconst 1, 1) := by decide +kernel
theorem dL_law_184 : decode cL_law 184 = .ok (.iadd, 1) := by decide +kernel
theorem dL_law_185 : decode cL_law 185 = .ok (.iaload, 1) := by decide +kernel
theorem dL_law_186 : decode cL_law 186 = .ok (.aload_n 0, 1) := by decide +kernel
theorem dL_law_187 : decode cL_law 187 = .ok (.iload_n 3, 1) := by decide +kernel
theorem dL_law_188 : decode cL_law 188 = .ok (.iconst 2, 1) := by decide +kernel
theorem dL_law_189 : decode cL_law 189 = .ok (.iadd, 1) := by decide +kernel
theorem dL_law_190 : decode cL_law 190 = .ok (.iaload, 1) := by decide +kernel
theorem dL_law_191 : decode cL_law 191 = .ok (.aload_n 0, 1) := by decide +kernel
theorem dL_law_192 : decode cL_law 192 = .ok (.iload_n 3, 1) := by decide +kernel
theorem dL_law_193 : decode cL_law 193 = .ok (.iconst 3, 1) := by decide +kernel
theorem dL_law_194 : decode cL_law 194 = .ok (.iadd, 1) := by decide +kernel
theorem dL_law_195 : decode cL_law 195 = .ok (.iaload, 1) := by decide +kernel
theorem dL_law_196 : decode cL_law 196 = .ok (.aload_n 0, 1) := by decide +kernel
theorem dL_law_197 : decode cL_law 197 = .ok (.iload_n 3, 1) := by decide +kernel
theorem dL_law_198 : decode cL_law 198 = .ok (.iconst 4, 1) := by decide +kernel
theorem dL_law_199 : decode cL_law 199 = .ok (.iadd, 1) := by decide +kernel
theorem dL_law_200 : decode cL_law 200 = .ok (.iaload, 1) := by decide +kernel
theorem dL_law_201 : decode cL_law 201 = .ok (.invokevirtual 17, 3) := by decide +kernel
theorem dL_law_204 : decode cL_law 204 = .ok (.if_icmp .eq 841, 3) := by decide +kernel
theorem dL_law_207 : decode cL_law 207 = .ok (.iconst 0, 1) := by decide +kernel
theorem dL_law_208 : decode cL_law 208 = .ok (.ireturn, 1) := by decide +kernel
theorem dL_law_209 : decode cL_law 209 = .ok (.aload_n 1, 1) := by decide +kernel
theorem dL_law_210 : decode cL_law 210 = .ok (.aload_n 0, 1) := by decide +kernel
theorem dL_law_211 : decode cL_law 211 = .ok (.iload_n 3, 1) := by decide +kernel
theorem dL_law_212 : decode cL_law 212 = .ok (.iconst 1, 1) := by decide +kernel
theorem dL_law_213 : decode cL_law 213 = .ok (.iadd, 1) := by decide +kernel
theorem dL_law_214 : decode cL_law 214 = .ok (.iaload, 1) := by decide +kernel
theorem dL_law_215 : decode cL_law 215 = .ok (.aload_n 0, 1) := by decide +kernel
theorem dL_law_216 : decode cL_law 216 = .ok (.iload_n 3, 1) := by decide +kernel
theorem dL_law_217 : decode cL_law 217 = .ok (.iconst 2, 1) := by decide +kernel
theorem dL_law_218 : decode cL_law 218 = .ok (.iadd, 1) := by decide +kernel
theorem dL_law_219 : decode cL_law 219 = .ok (.iaload, 1) := by decide +kernel
theorem dL_law_220 : decode cL_law 220 = .ok (.invokevirtual 18, 3) := by decide +kernel
theorem dL_law_223 : decode cL_law 223 = .ok (.aload_n 2, 1) := by decide +kernel
theorem dL_law_224 : decode cL_law 224 = .ok (.aload_n 0, 1) := by decide +kernel
theorem dL_law_225 : decode cL_law 225 = .ok (.iload_n 3, 1) := by decide +kernel
theorem dL_law_226 : decode cL_law 226 = .ok (.iconst 1, 1) := by decide +kernel
theorem dL_law_227 : decode cL_law 227 = .ok (.iadd, 1) := by decide +kernel
theorem dL_law_228 : decode cL_law 228 = .ok (.iaload, 1) := by decide +kernel
theorem dL_law_229 : decode cL_law 229 = .ok (.aload_n 0, 1) := by decide +kernel
theorem dL_law_230 : decode cL_law 230 = .ok (.iload_n 3, 1) := by decide +kernel
theorem dL_law_231 : decode cL_law 231 = .ok (.iconst 2, 1) := by decide +kernel
theorem dL_law_232 : decode cL_law 232 = .ok (.iadd, 1) := by decide +kernel
theorem dL_law_233 : decode cL_law 233 = .ok (.iaload, 1) := by decide +kernel
theorem dL_law_234 : decode cL_law 234 = .ok (.invokevirtual 22, 3) := by decide +kernel
theorem dL_law_237 : decode cL_law 237 = .ok (.if_icmp .eq 808, 3) := by decide +kernel
theorem dL_law_240 : decode cL_law 240 = .ok (.iconst 0, 1) := by decide +kernel
theorem dL_law_241 : decode cL_law 241 = .ok (.ireturn, 1) := by decide +kernel
theorem dL_law_242 : decode cL_law 242 = .ok (.aload_n 1, 1) := by decide +kernel
theorem dL_law_243 : decode cL_law 243 = .ok (.aload_n 0, 1) := by decide +kernel
theorem dL_law_244 : decode cL_law 244 = .ok (.iload_n 3, 1) := by decide +kernel
theorem dL_law_245 : decode cL_law 245 = .ok (.iconst 1, 1) := by decide +kernel
theorem dL_law_246 : decode cL_law 246 = .ok (.iadd, 1) := by decide +kernel
theorem dL_law_247 : decode cL_law 247 = .ok (.iaload, 1) := by decide +kernel
theorem dL_law_248 : decode cL_law 248 = .ok (.aload_n 0, 1) := by decide +kernel
theorem dL_law_249 : decode cL_law 249 = .ok (.iload_n 3, 1) := by decide +kernel
theorem dL_law_250 : decode cL_law 250 = .ok (.iconst 2, 1) := by decide +kernel
theorem dL_law_251 : decode cL_law 251 = .ok (.iadd, 1) := by decide +kernel
theorem dL_law_252 : decode cL_law 252 = .ok (.iaload, 1) := by decide +kernel
theorem dL_law_253 : decode cL_law 253 = .ok (.invokevirtual 23, 3) := by decide +kernel
theorem dL_law_256 : decode cL_law 256 = .ok (.aload_n 2, 1) := by decide +kernel
theorem dL_law_257 : decode cL_law 257 = .ok (.aload_n 0, 1) := by decide +kernel
theorem dL_law_258 : decode cL_law 258 = .ok (.iload_n 3, 1) := by decide +kernel
theorem dL_law_259 : decode cL_law 259 = .ok (.iconst 1, 1) := by decide +kernel
theorem dL_law_260 : decode cL_law 260 = .ok (.iadd, 1) := by decide +kernel
theorem dL_law_261 : decode cL_law 261 = .ok (.iaload, 1) := by decide +kernel
theorem dL_law_262 : decode cL_law 262 = .ok (.aload_n 0, 1) := by decide +kernel
theorem dL_law_263 : decode cL_law 263 = .ok (.iload_n 3, 1) := by decide +kernel
theorem dL_law_264 : decode cL_law 264 = .ok (.iconst 2, 1) := by decide +kernel
theorem dL_law_265 : decode cL_law 265 = .ok (.iadd, 1) := by decide +kernel
theorem dL_law_266 : decode cL_law 266 = .ok (.iaload, 1) := by decide +kernel
theorem dL_law_267 : decode cL_law 267 = .ok (.invokevirtual 26, 3) := by decide +kernel
theorem dL_law_270 : decode cL_law 270 = .ok (.if_icmp .eq 775, 3) := by decide +kernel
theorem dL_law_273 : decode cL_law 273 = .ok (.iconst 0, 1) := by decide +kernel
theorem dL_law_274 : decode cL_law 274 = .ok (.ireturn, 1) := by decide +kernel
theorem dL_law_275 : decode cL_law 275 = .ok (.aload_n 1, 1) := by decide +kernel
theorem dL_law_276 : decode cL_law 276 = .ok (.aload_n 0, 1) := by decide +kernel
theorem dL_law_277 : decode cL_law 277 = .ok (.iload_n 3, 1) := by decide +kernel
theorem dL_law_278 : decode cL_law 278 = .ok (.iconst 1, 1) := by decide +kernel
theorem dL_law_279 : decode cL_law 279 = .ok (.iadd, 1) := by decide +kernel
theorem dL_law_280 : decode cL_law 280 = .ok (.iaload, 1) := by decide +kernel
theorem dL_law_281 : decode cL_law 281 = .ok (.invokevirtual 27, 3) := by decide +kernel
theorem dL_law_284 : decode cL_law 284 = .ok (.aload_n 2, 1) := by decide +kernel
theorem dL_law_285 : decode cL_law 285 = .ok (.aload_n 0, 1) := by decide +kernel
theorem dL_law_286 : decode cL_law 286 = .ok (.iload_n 3, 1) := by decide +kernel
theorem dL_law_287 : decode cL_law 287 = .ok (.iconst 1, 1) := by decide +kernel
theorem dL_law_288 : decode cL_law 288 = .ok (.iadd, 1) := by decide +kernel
theorem dL_law_289 : decode cL_law 289 = .ok (.iaload, 1) := by decide +kernel
theorem dL_law_290 : decode cL_law 290 = .ok (.invokevirtual 31, 3) := by decide +kernel
theorem dL_law_293 : decode cL_law 293 = .ok (.if_icmp .eq 752, 3) := by decide +kernel
theorem dL_law_296 : decode cL_law 296 = .ok (.iconst 0, 1) := by decide +kernel
theorem dL_law_297 : decode cL_law 297 = .ok (.ireturn, 1) := by decide +kernel
theorem dL_law_298 : decode cL_law 298 = .ok (.aload_n 1, 1) := by decide +kernel
theorem dL_law_299 : decode cL_law 299 = .ok (.invokevirtual 32, 3) := by decide +kernel
theorem dL_law_302 : decode cL_law 302 = .ok (.aload_n 2, 1) := by decide +kernel
theorem dL_law_303 : decode cL_law 303 = .ok (.invokevirtual 36, 3) := by decide +kernel
theorem dL_law_306 : decode cL_law 306 = .ok (.if_icmp .eq 739, 3) := by decide +kernel
theorem dL_law_309 : decode cL_law 309 = .ok (.iconst 0, 1) := by decide +kernel
theorem dL_law_310 : decode cL_law 310 = .ok (.ireturn, 1) := by decide +kernel
theorem dL_law_311 : decode cL_law 311 = .ok (.aload_n 1, 1) := by decide +kernel
theorem dL_law_312 : decode cL_law 312 = .ok (.aload_n 0, 1) := by decide +kernel
theorem dL_law_313 : decode cL_law 313 = .ok (.iload_n 3, 1) := by decide +kernel
theorem dL_law_314 : decode cL_law 314 = .ok (.iconst 1, 1) := by decide +kernel
theorem dL_law_315 : decode cL_law 315 = .ok (.iadd, 1) := by decide +kernel
theorem dL_law_316 : decode cL_law 316 = .ok (.iaload, 1) := by decide +kernel
theorem dL_law_317 : decode cL_law 317 = .ok (.invokevirtual 37, 3) := by decide +kernel
theorem dL_law_320 : decode cL_law 320 = .ok (.aload_n 2, 1) := by decide +kernel
theorem dL_law_321 : decode cL_law 321 = .ok (.aload_n 0, 1) := by decide +kernel
theorem dL_law_322 : decode cL_law 322 = .ok (.iload_n 3, 1) := by decide +kernel
theorem dL_law_323 : decode cL_law 323 = .ok (.iconst 1, 1) := by decide +kernel
theorem dL_law_324 : decode cL_law 324 = .ok (.iadd, 1) := by decide +kernel
theorem dL_law_325 : decode cL_law 325 = .ok (.iaload, 1) := by decide +kernel
theorem dL_law_326 : decode cL_law 326 = .ok (.invokevirtual 40, 3) := by decide +kernel
theorem dL_law_329 : decode cL_law 329 = .ok (.if_icmp .eq 716, 3) := by decide +kernel
theorem dL_law_332 : decode cL_law 332 = .ok (.iconst 0, 1) := by decide +kernel
theorem dL_law_333 : decode cL_law 333 = .ok (.ireturn, 1) := by decide +kernel
theorem dL_law_334 : decode cL_law 334 = .ok (.aload_n 1, 1) := by decide +kernel
theorem dL_law_335 : decode cL_law 335 = .ok (.aload_n 0, 1) := by decide +kernel
theorem dL_law_336 : decode cL_law 336 = .ok (.iload_n 3, 1) := by decide +kernel
theorem dL_law_337 : decode cL_law 337 = .ok (.iconst 1, 1) := by decide +kernel
theorem dL_law_338 : decode cL_law 338 = .ok (.iadd, 1) := by decide +kernel
theorem dL_law_339 : decode cL_law 339 = .ok (.iaload, 1) := by decide +kernel
theorem dL_law_340 : decode cL_law 340 = .ok (.invokevirtual 41, 3) := by decide +kernel
theorem dL_law_343 : decode cL_law 343 = .ok (.aload_n 2, 1) := by decide +kernel
theorem dL_law_344 : decode cL_law 344 = .ok (.aload_n 0, 1) := by decide +kernel
theorem dL_law_345 : decode cL_law 345 = .ok (.iload_n 3, 1) := by decide +kernel
theorem dL_law_346 : decode cL_law 346 = .ok (.iconst 1, 1) := by decide +kernel
theorem dL_law_347 : decode cL_law 347 = .ok (.iadd, 1) := by decide +kernel
theorem dL_law_348 : decode cL_law 348 = .ok (.iaload, 1) := by decide +kernel
theorem dL_law_349 : decode cL_law 349 = .ok (.invokevirtual 44, 3) := by decide +kernel
theorem dL_law_352 : decode cL_law 352 = .ok (.if_icmp .eq 693, 3) := by decide +kernel
theorem dL_law_355 : decode cL_law 355 = .ok (.iconst 0, 1) := by decide +kernel
theorem dL_law_356 : decode cL_law 356 = .ok (.ireturn, 1) := by decide +kernel
theorem dL_law_357 : decode cL_law 357 = .ok (.aload_n 1, 1) := by decide +kernel
theorem dL_law_358 : decode cL_law 358 = .ok (.aload_n 0, 1) := by decide +kernel
theorem dL_law_359 : decode cL_law 359 = .ok (.iload_n 3, 1) := by decide +kernel
theorem dL_law_360 : decode cL_law 360 = .ok (.iconst 1, 1) := by decide +kernel
theorem dL_law_361 : decode cL_law 361 = .ok (.iadd, 1) := by decide +kernel
theorem dL_law_362 : decode cL_law 362 = .ok (.iaload, 1) := by decide +kernel
theorem dL_law_363 : decode cL_law 363 = .ok (.aload_n 0, 1) := by decide +kernel
theorem dL_law_364 : decode cL_law 364 = .ok (.iload_n 3, 1) := by decide +kernel
theorem dL_law_365 : decode cL_law 365 = .ok (.iconst 2, 1) := by decide +kernel
theorem dL_law_366 : decode cL_law 366 = .ok (.iadd, 1) := by decide +kernel
theorem dL_law_367 : decode cL_law 367 = .ok (.iaload, 1) := by decide +kernel
theorem dL_law_368 : decode cL_law 368 = .ok (.aload_n 0, 1) := by decide +kernel
theorem dL_law_369 : decode cL_law 369 = .ok (.iload_n 3, 1) := by decide +kernel
theorem dL_law_370 : decode cL_law 370 = .ok (.iconst 3, 1) := by decide +kernel
theorem dL_law_371 : decode cL_law 371 = .ok (.iadd, 1) := by decide +kernel
theorem dL_law_372 : decode cL_law 372 = .ok (.iaload, 1) := by decide +kernel
theorem dL_law_373 : decode cL_law 373 = .ok (.aload_n 0, 1) := by decide +kernel
theorem dL_law_374 : decode cL_law 374 = .ok (.iload_n 3, 1) := by decide +kernel
theorem dL_law_375 : decode cL_law 375 = .ok (.iconst 4, 1) := by decide +kernel
theorem dL_law_376 : decode cL_law 376 = .ok (.iadd, 1) := by decide +kernel
theorem dL_law_377 : decode cL_law 377 = .ok (.iaload, 1) := by decide +kernel
theorem dL_law_378 : decode cL_law 378 = .ok (.aload_n 0, 1) := by decide +kernel
theorem dL_law_379 : decode cL_law 379 = .ok (.iload_n 3, 1) := by decide +kernel
theorem dL_law_380 : decode cL_law 380 = .ok (.iconst 5, 1) := by decide +kernel
theorem dL_law_381 : decode cL_law 381 = .ok (.iadd, 1) := by decide +kernel
theorem dL_law_382 : decode cL_law 382 = .ok (.iaload, 1) := by decide +kernel
theorem dL_law_383 : decode cL_law 383 = .ok (.invokevirtual 45, 3) := by decide +kernel
theorem dL_law_386 : decode cL_law 386 = .ok (.aload_n 2, 1) := by decide +kernel
theorem dL_law_387 : decode cL_law 387 = .ok (.aload_n 0, 1) := by decide +kernel
theorem dL_law_388 : decode cL_law 388 = .ok (.iload_n 3, 1) := by decide +kernel
theorem dL_law_389 : decode cL_law 389 = .ok (.iconst 1, 1) := by decide +kernel
theorem dL_law_390 : decode cL_law 390 = .ok (.iadd, 1) := by decide +kernel
theorem dL_law_391 : decode cL_law 391 = .ok (.iaload, 1) := by decide +kernel
theorem dL_law_392 : decode cL_law 392 = .ok (.aload_n 0, 1) := by decide +kernel
theorem dL_law_393 : decode cL_law 393 = .ok (.iload_n 3, 1) := by decide +kernel
theorem dL_law_394 : decode cL_law 394 = .ok (.iconst 2, 1) := by decide +kernel
theorem dL_law_395 : decode cL_law 395 = .ok (.iadd, 1) := by decide +kernel
theorem dL_law_396 : decode cL_law 396 = .ok (.iaload, 1) := by decide +kernel
theorem dL_law_397 : decode cL_law 397 = .ok (.aload_n 0, 1) := by decide +kernel
theorem dL_law_398 : decode cL_law 398 = .ok (.iload_n 3, 1) := by decide +kernel
theorem dL_law_399 : decode cL_law 399 = .ok (.iconst 3, 1) := by decide +kernel
theorem dL_law_400 : decode cL_law 400 = .ok (.iadd, 1) := by decide +kernel
theorem dL_law_401 : decode cL_law 401 = .ok (.iaload, 1) := by decide +kernel
theorem dL_law_402 : decode cL_law 402 = .ok (.aload_n 0, 1) := by decide +kernel
theorem dL_law_403 : decode cL_law 403 = .ok (.iload_n 3, 1) := by decide +kernel
theorem dL_law_404 : decode cL_law 404 = .ok (.iconst 4, 1) := by decide +kernel
theorem dL_law_405 : decode cL_law 405 = .ok (.iadd, 1) := by decide +kernel
theorem dL_law_406 : decode cL_law 406 = .ok (.iaload, 1) := by decide +kernel
theorem dL_law_407 : decode cL_law 407 = .ok (.aload_n 0, 1) := by decide +kernel
theorem dL_law_408 : decode cL_law 408 = .ok (.iload_n 3, 1) := by decide +kernel
theorem dL_law_409 : decode cL_law 409 = .ok (.iconst 5, 1) := by decide +kernel
theorem dL_law_410 : decode cL_law 410 = .ok (.iadd, 1) := by decide +kernel
theorem dL_law_411 : decode cL_law 411 = .ok (.iaload, 1) := by decide +kernel
theorem dL_law_412 : decode cL_law 412 = .ok (.invokevirtual 49, 3) := by decide +kernel
theorem dL_law_415 : decode cL_law 415 = .ok (.if_icmp .eq 630, 3) := by decide +kernel
theorem dL_law_418 : decode cL_law 418 = .ok (.iconst 0, 1) := by decide +kernel
theorem dL_law_419 : decode cL_law 419 = .ok (.ireturn, 1) := by decide +kernel
theorem dL_law_420 : decode cL_law 420 = .ok (.aload_n 1, 1) := by decide +kernel
theorem dL_law_421 : decode cL_law 421 = .ok (.aload_n 0, 1) := by decide +kernel
theorem dL_law_422 : decode cL_law 422 = .ok (.iload_n 3, 1) := by decide +kernel
theorem dL_law_423 : decode cL_law 423 = .ok (.iconst 1, 1) := by decide +kernel
theorem dL_law_424 : decode cL_law 424 = .ok (.iadd, 1) := by decide +kernel
theorem dL_law_425 : decode cL_law 425 = .ok (.iaload, 1) := by decide +kernel
theorem dL_law_426 : decode cL_law 426 = .ok (.aload_n 0, 1) := by decide +kernel
theorem dL_law_427 : decode cL_law 427 = .ok (.iload_n 3, 1) := by decide +kernel
theorem dL_law_428 : decode cL_law 428 = .ok (.iconst 2, 1) := by decide +kernel
theorem dL_law_429 : decode cL_law 429 = .ok (.iadd, 1) := by decide +kernel
theorem dL_law_430 : decode cL_law 430 = .ok (.iaload, 1) := by decide +kernel
theorem dL_law_431 : decode cL_law 431 = .ok (.aload_n 0, 1) := by decide +kernel
theorem dL_law_432 : decode cL_law 432 = .ok (.iload_n 3, 1) := by decide +kernel
theorem dL_law_433 : decode cL_law 433 = .ok (.iconst 3, 1) := by decide +kernel
theorem dL_law_434 : decode cL_law 434 = .ok (.iadd, 1) := by decide +kernel
theorem dL_law_435 : decode cL_law 435 = .ok (.iaload, 1) := by decide +kernel
theorem dL_law_436 : decode cL_law 436 = .ok (.invokevirtual 50, 3) := by decide +kernel
theorem dL_law_439 : decode cL_law 439 = .ok (.aload_n 2, 1) := by decide +kernel
theorem dL_law_440 : decode cL_law 440 = .ok (.aload_n 0, 1) := by decide +kernel
theorem dL_law_441 : decode cL_law 441 = .ok (.iload_n 3, 1) := by decide +kernel
theorem dL_law_442 : decode cL_law 442 = .ok (.iconst 1, 1) := by decide +kernel
theorem dL_law_443 : decode cL_law 443 = .ok (.iadd, 1) := by decide +kernel
theorem dL_law_444 : decode cL_law 444 = .ok (.iaload, 1) := by decide +kernel
theorem dL_law_445 : decode cL_law 445 = .ok (.aload_n 0, 1) := by decide +kernel
theorem dL_law_446 : decode cL_law 446 = .ok (.iload_n 3, 1) := by decide +kernel
theorem dL_law_447 : decode cL_law 447 = .ok (.iconst 2, 1) := by decide +kernel
theorem dL_law_448 : decode cL_law 448 = .ok (.iadd, 1) := by decide +kernel
theorem dL_law_449 : decode cL_law 449 = .ok (.iaload, 1) := by decide +kernel
theorem dL_law_450 : decode cL_law 450 = .ok (.aload_n 0, 1) := by decide +kernel
theorem dL_law_451 : decode cL_law 451 = .ok (.iload_n 3, 1) := by decide +kernel
theorem dL_law_452 : decode cL_law 452 = .ok (.iconst 3, 1) := by decide +kernel
theorem dL_law_453 : decode cL_law 453 = .ok (.iadd, 1) := by decide +kernel
theorem dL_law_454 : decode cL_law 454 = .ok (.iaload, 1) := by decide +kernel
theorem dL_law_455 : decode cL_law 455 = .ok (.invokevirtual 54, 3) := by decide +kernel
theorem dL_law_458 : decode cL_law 458 = .ok (.if_icmp .eq 587, 3) := by decide +kernel
theorem dL_law_461 : decode cL_law 461 = .ok (.iconst 0, 1) := by decide +kernel
theorem dL_law_462 : decode cL_law 462 = .ok (.ireturn, 1) := by decide +kernel
theorem dL_law_463 : decode cL_law 463 = .ok (.aload_n 1, 1) := by decide +kernel
theorem dL_law_464 : decode cL_law 464 = .ok (.aload_n 0, 1) := by decide +kernel
theorem dL_law_465 : decode cL_law 465 = .ok (.iload_n 3, 1) := by decide +kernel
theorem dL_law_466 : decode cL_law 466 = .ok (.iconst 1, 1) := by decide +kernel
theorem dL_law_467 : decode cL_law 467 = .ok (.iadd, 1) := by decide +kernel
theorem dL_law_468 : decode cL_law 468 = .ok (.iaload, 1) := by decide +kernel
theorem dL_law_469 : decode cL_law 469 = .ok (.aload_n 0, 1) := by decide +kernel
theorem dL_law_470 : decode cL_law 470 = .ok (.iload_n 3, 1) := by decide +kernel
theorem dL_law_471 : decode cL_law 471 = .ok (.iconst 2, 1) := by decide +kernel
theorem dL_law_472 : decode cL_law 472 = .ok (.iadd, 1) := by decide +kernel
theorem dL_law_473 : decode cL_law 473 = .ok (.iaload, 1) := by decide +kernel
theorem dL_law_474 : decode cL_law 474 = .ok (.aload_n 0, 1) := by decide +kernel
theorem dL_law_475 : decode cL_law 475 = .ok (.iload_n 3, 1) := by decide +kernel
theorem dL_law_476 : decode cL_law 476 = .ok (.iconst 3, 1) := by decide +kernel
theorem dL_law_477 : decode cL_law 477 = .ok (.iadd, 1) := by decide +kernel
theorem dL_law_478 : decode cL_law 478 = .ok (.iaload, 1) := by decide +kernel
theorem dL_law_479 : decode cL_law 479 = .ok (.invokevirtual 55, 3) := by decide +kernel
theorem dL_law_482 : decode cL_law 482 = .ok (.aload_n 2, 1) := by decide +kernel
theorem dL_law_483 : decode cL_law 483 = .ok (.aload_n 0, 1) := by decide +kernel
theorem dL_law_484 : decode cL_law 484 = .ok (.iload_n 3, 1) := by decide +kernel
theorem dL_law_485 : decode cL_law 485 = .ok (.iconst 1, 1) := by decide +kernel
theorem dL_law_486 : decode cL_law 486 = .ok (.iadd, 1) := by decide +kernel
theorem dL_law_487 : decode cL_law 487 = .ok (.iaload, 1) := by decide +kernel
theorem dL_law_488 : decode cL_law 488 = .ok (.aload_n 0, 1) := by decide +kernel
theorem dL_law_489 : decode cL_law 489 = .ok (.iload_n 3, 1) := by decide +kernel
theorem dL_law_490 : decode cL_law 490 = .ok (.iconst 2, 1) := by decide +kernel
theorem dL_law_491 : decode cL_law 491 = .ok (.iadd, 1) := by decide +kernel
theorem dL_law_492 : decode cL_law 492 = .ok (.iaload, 1) := by decide +kernel
theorem dL_law_493 : decode cL_law 493 = .ok (.aload_n 0, 1) := by decide +kernel
theorem dL_law_494 : decode cL_law 494 = .ok (.iload_n 3, 1) := by decide +kernel
theorem dL_law_495 : decode cL_law 495 = .ok (.iconst 3, 1) := by decide +kernel
theorem dL_law_496 : decode cL_law 496 = .ok (.iadd, 1) := by decide +kernel
theorem dL_law_497 : decode cL_law 497 = .ok (.iaload, 1) := by decide +kernel
theorem dL_law_498 : decode cL_law 498 = .ok (.invokevirtual 58, 3) := by decide +kernel
theorem dL_law_501 : decode cL_law 501 = .ok (.if_icmp .eq 544, 3) := by decide +kernel
theorem dL_law_504 : decode cL_law 504 = .ok (.iconst 0, 1) := by decide +kernel
theorem dL_law_505 : decode cL_law 505 = .ok (.ireturn, 1) := by decide +kernel
theorem dL_law_506 : decode cL_law 506 = .ok (.aload_n 1, 1) := by decide +kernel
theorem dL_law_507 : decode cL_law 507 = .ok (.aload_n 0, 1) := by decide +kernel
theorem dL_law_508 : decode cL_law 508 = .ok (.iload_n 3, 1) := by decide +kernel
theorem dL_law_509 : decode cL_law 509 = .ok (.iconst 1, 1) := by decide +kernel
theorem dL_law_510 : decode cL_law 510 = .ok (.iadd, 1) := by decide +kernel
theorem dL_law_511 : decode cL_law 511 = .ok (.iaload, 1) := by decide +kernel
theorem dL_law_512 : decode cL_law 512 = .ok (.aload_n 0, 1) := by decide +kernel
theorem dL_law_513 : decode cL_law 513 = .ok (.iload_n 3, 1) := by decide +kernel
theorem dL_law_514 : decode cL_law 514 = .ok (.iconst 2, 1) := by decide +kernel
theorem dL_law_515 : decode cL_law 515 = .ok (.iadd, 1) := by decide +kernel
theorem dL_law_516 : decode cL_law 516 = .ok (.iaload, 1) := by decide +kernel
theorem dL_law_517 : decode cL_law 517 = .ok (.aload_n 0, 1) := by decide +kernel
theorem dL_law_518 : decode cL_law 518 = .ok (.iload_n 3, 1) := by decide +kernel
theorem dL_law_519 : decode cL_law 519 = .ok (.iconst 3, 1) := by decide +kernel
theorem dL_law_520 : decode cL_law 520 = .ok (.iadd, 1) := by decide +kernel
theorem dL_law_521 : decode cL_law 521 = .ok (.iaload, 1) := by decide +kernel
theorem dL_law_522 : decode cL_law 522 = .ok (.ifCond .eq 7, 3) := by decide +kernel
theorem dL_law_525 : decode cL_law 525 = .ok (.iconst 1, 1) := by decide +kernel
theorem dL_law_526 : decode cL_law 526 = .ok (.goto 4, 3) := by decide +kernel
theorem dL_law_529 : decode cL_law 529 = .ok (.iconst 0, 1) := by decide +kernel
theorem dL_law_530 : decode cL_law 530 = .ok (.invokevirtual 59, 3) := by decide +kernel
theorem dL_law_533 : decode cL_law 533 = .ok (.aload_n 2, 1) := by decide +kernel
theorem dL_law_534 : decode cL_law 534 = .ok (.aload_n 0, 1) := by decide +kernel
theorem dL_law_535 : decode cL_law 535 = .ok (.iload_n 3, 1) := by decide +kernel
theorem dL_law_536 : decode cL_law 536 = .ok (.iconst 1, 1) := by decide +kernel
theorem dL_law_537 : decode cL_law 537 = .ok (.iadd, 1) := by decide +kernel
theorem dL_law_538 : decode cL_law 538 = .ok (.iaload, 1) := by decide +kernel
theorem dL_law_539 : decode cL_law 539 = .ok (.aload_n 0, 1) := by decide +kernel
theorem dL_law_540 : decode cL_law 540 = .ok (.iload_n 3, 1) := by decide +kernel
theorem dL_law_541 : decode cL_law 541 = .ok (.iconst 2, 1) := by decide +kernel
theorem dL_law_542 : decode cL_law 542 = .ok (.iadd, 1) := by decide +kernel
theorem dL_law_543 : decode cL_law 543 = .ok (.iaload, 1) := by decide +kernel
theorem dL_law_544 : decode cL_law 544 = .ok (.aload_n 0, 1) := by decide +kernel
theorem dL_law_545 : decode cL_law 545 = .ok (.iload_n 3, 1) := by decide +kernel
theorem dL_law_546 : decode cL_law 546 = .ok (.iconst 3, 1) := by decide +kernel
theorem dL_law_547 : decode cL_law 547 = .ok (.iadd, 1) := by decide +kernel
theorem dL_law_548 : decode cL_law 548 = .ok (.iaload, 1) := by decide +kernel
theorem dL_law_549 : decode cL_law 549 = .ok (.ifCond .eq 7, 3) := by decide +kernel
theorem dL_law_552 : decode cL_law 552 = .ok (.iconst 1, 1) := by decide +kernel
theorem dL_law_553 : decode cL_law 553 = .ok (.goto 4, 3) := by decide +kernel
theorem dL_law_556 : decode cL_law 556 = .ok (.iconst 0, 1) := by decide +kernel
theorem dL_law_557 : decode cL_law 557 = .ok (.invokevirtual 63, 3) := by decide +kernel
theorem dL_law_560 : decode cL_law 560 = .ok (.if_icmp .eq 485, 3) := by decide +kernel
theorem dL_law_563 : decode cL_law 563 = .ok (.iconst 0, 1) := by decide +kernel
theorem dL_law_564 : decode cL_law 564 = .ok (.ireturn, 1) := by decide +kernel
theorem dL_law_565 : decode cL_law 565 = .ok (.aload_n 1, 1) := by decide +kernel
theorem dL_law_566 : decode cL_law 566 = .ok (.aload_n 0, 1) := by decide +kernel
theorem dL_law_567 : decode cL_law 567 = .ok (.iload_n 3, 1) := by decide +kernel
theorem dL_law_568 : decode cL_law 568 = .ok (.iconst 1, 1) := by decide +kernel
theorem dL_law_569 : decode cL_law 569 = .ok (.iadd, 1) := by decide +kernel
theorem dL_law_570 : decode cL_law 570 = .ok (.iaload, 1) := by decide +kernel
theorem dL_law_571 : decode cL_law 571 = .ok (.invokevirtual 64, 3) := by decide +kernel
theorem dL_law_574 : decode cL_law 574 = .ok (.aload_n 2, 1) := by decide +kernel
theorem dL_law_575 : decode cL_law 575 = .ok (.aload_n 0, 1) := by decide +kernel
theorem dL_law_576 : decode cL_law 576 = .ok (.iload_n 3, 1) := by decide +kernel
theorem dL_law_577 : decode cL_law 577 = .ok (.iconst 1, 1) := by decide +kernel
theorem dL_law_578 : decode cL_law 578 = .ok (.iadd, 1) := by decide +kernel
theorem dL_law_579 : decode cL_law 579 = .ok (.iaload, 1) := by decide +kernel
theorem dL_law_580 : decode cL_law 580 = .ok (.invokevirtual 67, 3) := by decide +kernel
theorem dL_law_583 : decode cL_law 583 = .ok (.if_icmp .eq 462, 3) := by decide +kernel
theorem dL_law_586 : decode cL_law 586 = .ok (.iconst 0, 1) := by decide +kernel
theorem dL_law_587 : decode cL_law 587 = .ok (.ireturn, 1) := by decide +kernel
theorem dL_law_588 : decode cL_law 588 = .ok (.aload_n 1, 1) := by decide +kernel
theorem dL_law_589 : decode cL_law 589 = .ok (.aload_n 0, 1) := by decide +kernel
theorem dL_law_590 : decode cL_law 590 = .ok (.iload_n 3, 1) := by decide +kernel
theorem dL_law_591 : decode cL_law 591 = .ok (.iconst 1, 1) := by decide +kernel
theorem dL_law_592 : decode cL_law 592 = .ok (.iadd, 1) := by decide +kernel
theorem dL_law_593 : decode cL_law 593 = .ok (.iaload, 1) := by decide +kernel
theorem dL_law_594 : decode cL_law 594 = .ok (.invokevirtual 68, 3) := by decide +kernel
theorem dL_law_597 : decode cL_law 597 = .ok (.aload_n 2, 1) := by decide +kernel
theorem dL_law_598 : decode cL_law 598 = .ok (.aload_n 0, 1) := by decide +kernel
theorem dL_law_599 : decode cL_law 599 = .ok (.iload_n 3, 1) := by decide +kernel
theorem dL_law_600 : decode cL_law 600 = .ok (.iconst 1, 1) := by decide +kernel
theorem dL_law_601 : decode cL_law 601 = .ok (.iadd, 1) := by decide +kernel
theorem dL_law_602 : decode cL_law 602 = .ok (.iaload, 1) := by decide +kernel
theorem dL_law_603 : decode cL_law 603 = .ok (.invokevirtual 71, 3) := by decide +kernel
theorem dL_law_606 : decode cL_law 606 = .ok (.if_icmp .eq 439, 3) := by decide +kernel
theorem dL_law_609 : decode cL_law 609 = .ok (.iconst 0, 1) := by decide +kernel
theorem dL_law_610 : decode cL_law 610 = .ok (.ireturn, 1) := by decide +kernel
theorem dL_law_611 : decode cL_law 611 = .ok (.aload_n 1, 1) := by decide +kernel
theorem dL_law_612 : decode cL_law 612 = .ok (.aload_n 0, 1) := by decide +kernel
theorem dL_law_613 : decode cL_law 613 = .ok (.iload_n 3, 1) := by decide +kernel
theorem dL_law_614 : decode cL_law 614 = .ok (.iconst 1, 1) := by decide +kernel
theorem dL_law_615 : decode cL_law 615 = .ok (.iadd, 1) := by decide +kernel
theorem dL_law_616 : decode cL_law 616 = .ok (.iaload, 1) := by decide +kernel
theorem dL_law_617 : decode cL_law 617 = .ok (.invokevirtual 72, 3) := by decide +kernel
theorem dL_law_620 : decode cL_law 620 = .ok (.aload_n 2, 1) := by decide +kernel
theorem dL_law_621 : decode cL_law 621 = .ok (.aload_n 0, 1) := by decide +kernel
theorem dL_law_622 : decode cL_law 622 = .ok (.iload_n 3, 1) := by decide +kernel
theorem dL_law_623 : decode cL_law 623 = .ok (.iconst 1, 1) := by decide +kernel
theorem dL_law_624 : decode cL_law 624 = .ok (.iadd, 1) := by decide +kernel
theorem dL_law_625 : decode cL_law 625 = .ok (.iaload, 1) := by decide +kernel
theorem dL_law_626 : decode cL_law 626 = .ok (.invokevirtual 75, 3) := by decide +kernel
theorem dL_law_629 : decode cL_law 629 = .ok (.if_icmp .eq 416, 3) := by decide +kernel
theorem dL_law_632 : decode cL_law 632 = .ok (.iconst 0, 1) := by decide +kernel
theorem dL_law_633 : decode cL_law 633 = .ok (.ireturn, 1) := by decide +kernel
theorem dL_law_634 : decode cL_law 634 = .ok (.aload_n 1, 1) := by decide +kernel
theorem dL_law_635 : decode cL_law 635 = .ok (.aload_n 0, 1) := by decide +kernel
theorem dL_law_636 : decode cL_law 636 = .ok (.iload_n 3, 1) := by decide +kernel
theorem dL_law_637 : decode cL_law 637 = .ok (.iconst 1, 1) := by decide +kernel
theorem dL_law_638 : decode cL_law 638 = .ok (.iadd, 1) := by decide +kernel
theorem dL_law_639 : decode cL_law 639 = .ok (.iaload, 1) := by decide +kernel
theorem dL_law_640 : decode cL_law 640 = .ok (.invokevirtual 76, 3) := by decide +kernel
theorem dL_law_643 : decode cL_law 643 = .ok (.aload_n 2, 1) := by decide +kernel
theorem dL_law_644 : decode cL_law 644 = .ok (.aload_n 0, 1) := by decide +kernel
theorem dL_law_645 : decode cL_law 645 = .ok (.iload_n 3, 1) := by decide +kernel
theorem dL_law_646 : decode cL_law 646 = .ok (.iconst 1, 1) := by decide +kernel
theorem dL_law_647 : decode cL_law 647 = .ok (.iadd, 1) := by decide +kernel
theorem dL_law_648 : decode cL_law 648 = .ok (.iaload, 1) := by decide +kernel
theorem dL_law_649 : decode cL_law 649 = .ok (.invokevirtual 79, 3) := by decide +kernel
theorem dL_law_652 : decode cL_law 652 = .ok (.if_icmp .eq 393, 3) := by decide +kernel
theorem dL_law_655 : decode cL_law 655 = .ok (.iconst 0, 1) := by decide +kernel
theorem dL_law_656 : decode cL_law 656 = .ok (.ireturn, 1) := by decide +kernel
theorem dL_law_657 : decode cL_law 657 = .ok (.aload_n 1, 1) := by decide +kernel
theorem dL_law_658 : decode cL_law 658 = .ok (.aload_n 0, 1) := by decide +kernel
theorem dL_law_659 : decode cL_law 659 = .ok (.iload_n 3, 1) := by decide +kernel
theorem dL_law_660 : decode cL_law 660 = .ok (.iconst 1, 1) := by decide +kernel
theorem dL_law_661 : decode cL_law 661 = .ok (.iadd, 1) := by decide +kernel
theorem dL_law_662 : decode cL_law 662 = .ok (.iaload, 1) := by decide +kernel
theorem dL_law_663 : decode cL_law 663 = .ok (.aload_n 0, 1) := by decide +kernel
theorem dL_law_664 : decode cL_law 664 = .ok (.iload_n 3, 1) := by decide +kernel
theorem dL_law_665 : decode cL_law 665 = .ok (.iconst 2, 1) := by decide +kernel
theorem dL_law_666 : decode cL_law 666 = .ok (.iadd, 1) := by decide +kernel
theorem dL_law_667 : decode cL_law 667 = .ok (.iaload, 1) := by decide +kernel
theorem dL_law_668 : decode cL_law 668 = .ok (.aload_n 0, 1) := by decide +kernel
theorem dL_law_669 : decode cL_law 669 = .ok (.iload_n 3, 1) := by decide +kernel
theorem dL_law_670 : decode cL_law 670 = .ok (.iconst 3, 1) := by decide +kernel
theorem dL_law_671 : decode cL_law 671 = .ok (.iadd, 1) := by decide +kernel
theorem dL_law_672 : decode cL_law 672 = .ok (.iaload, 1) := by decide +kernel
theorem dL_law_673 : decode cL_law 673 = .ok (.invokevirtual 80, 3) := by decide +kernel
theorem dL_law_676 : decode cL_law 676 = .ok (.aload_n 2, 1) := by decide +kernel
theorem dL_law_677 : decode cL_law 677 = .ok (.aload_n 0, 1) := by decide +kernel
theorem dL_law_678 : decode cL_law 678 = .ok (.iload_n 3, 1) := by decide +kernel
theorem dL_law_679 : decode cL_law 679 = .ok (.iconst 1, 1) := by decide +kernel
theorem dL_law_680 : decode cL_law 680 = .ok (.iadd, 1) := by decide +kernel
theorem dL_law_681 : decode cL_law 681 = .ok (.iaload, 1) := by decide +kernel
theorem dL_law_682 : decode cL_law 682 = .ok (.aload_n 0, 1) := by decide +kernel
theorem dL_law_683 : decode cL_law 683 = .ok (.iload_n 3, 1) := by decide +kernel
theorem dL_law_684 : decode cL_law 684 = .ok (.iconst 2, 1) := by decide +kernel
theorem dL_law_685 : decode cL_law 685 = .ok (.iadd, 1) := by decide +kernel
theorem dL_law_686 : decode cL_law 686 = .ok (.iaload, 1) := by decide +kernel
theorem dL_law_687 : decode cL_law 687 = .ok (.aload_n 0, 1) := by decide +kernel
theorem dL_law_688 : decode cL_law 688 = .ok (.iload_n 3, 1) := by decide +kernel
theorem dL_law_689 : decode cL_law 689 = .ok (.iconst 3, 1) := by decide +kernel
theorem dL_law_690 : decode cL_law 690 = .ok (.iadd, 1) := by decide +kernel
theorem dL_law_691 : decode cL_law 691 = .ok (.iaload, 1) := by decide +kernel
theorem dL_law_692 : decode cL_law 692 = .ok (.invokevirtual 84, 3) := by decide +kernel
theorem dL_law_695 : decode cL_law 695 = .ok (.lcmp, 1) := by decide +kernel
theorem dL_law_696 : decode cL_law 696 = .ok (.ifCond .eq 349, 3) := by decide +kernel
theorem dL_law_699 : decode cL_law 699 = .ok (.iconst 0, 1) := by decide +kernel
theorem dL_law_700 : decode cL_law 700 = .ok (.ireturn, 1) := by decide +kernel
theorem dL_law_701 : decode cL_law 701 = .ok (.aload_n 1, 1) := by decide +kernel
theorem dL_law_702 : decode cL_law 702 = .ok (.aload_n 0, 1) := by decide +kernel
theorem dL_law_703 : decode cL_law 703 = .ok (.iload_n 3, 1) := by decide +kernel
theorem dL_law_704 : decode cL_law 704 = .ok (.iconst 1, 1) := by decide +kernel
theorem dL_law_705 : decode cL_law 705 = .ok (.iadd, 1) := by decide +kernel
theorem dL_law_706 : decode cL_law 706 = .ok (.iaload, 1) := by decide +kernel
theorem dL_law_707 : decode cL_law 707 = .ok (.aload_n 0, 1) := by decide +kernel
theorem dL_law_708 : decode cL_law 708 = .ok (.iload_n 3, 1) := by decide +kernel
theorem dL_law_709 : decode cL_law 709 = .ok (.iconst 2, 1) := by decide +kernel
theorem dL_law_710 : decode cL_law 710 = .ok (.iadd, 1) := by decide +kernel
theorem dL_law_711 : decode cL_law 711 = .ok (.iaload, 1) := by decide +kernel
theorem dL_law_712 : decode cL_law 712 = .ok (.aload_n 0, 1) := by decide +kernel
theorem dL_law_713 : decode cL_law 713 = .ok (.iload_n 3, 1) := by decide +kernel
theorem dL_law_714 : decode cL_law 714 = .ok (.iconst 3, 1) := by decide +kernel
theorem dL_law_715 : decode cL_law 715 = .ok (.iadd, 1) := by decide +kernel
theorem dL_law_716 : decode cL_law 716 = .ok (.iaload, 1) := by decide +kernel
theorem dL_law_717 : decode cL_law 717 = .ok (.invokevirtual 85, 3) := by decide +kernel
theorem dL_law_720 : decode cL_law 720 = .ok (.aload_n 2, 1) := by decide +kernel
theorem dL_law_721 : decode cL_law 721 = .ok (.aload_n 0, 1) := by decide +kernel
theorem dL_law_722 : decode cL_law 722 = .ok (.iload_n 3, 1) := by decide +kernel
theorem dL_law_723 : decode cL_law 723 = .ok (.iconst 1, 1) := by decide +kernel
theorem dL_law_724 : decode cL_law 724 = .ok (.iadd, 1) := by decide +kernel
theorem dL_law_725 : decode cL_law 725 = .ok (.iaload, 1) := by decide +kernel
theorem dL_law_726 : decode cL_law 726 = .ok (.aload_n 0, 1) := by decide +kernel
theorem dL_law_727 : decode cL_law 727 = .ok (.iload_n 3, 1) := by decide +kernel
theorem dL_law_728 : decode cL_law 728 = .ok (.iconst 2, 1) := by decide +kernel
theorem dL_law_729 : decode cL_law 729 = .ok (.iadd, 1) := by decide +kernel
theorem dL_law_730 : decode cL_law 730 = .ok (.iaload, 1) := by decide +kernel
theorem dL_law_731 : decode cL_law 731 = .ok (.aload_n 0, 1) := by decide +kernel
theorem dL_law_732 : decode cL_law 732 = .ok (.iload_n 3, 1) := by decide +kernel
theorem dL_law_733 : decode cL_law 733 = .ok (.iconst 3, 1) := by decide +kernel
theorem dL_law_734 : decode cL_law 734 = .ok (.iadd, 1) := by decide +kernel
theorem dL_law_735 : decode cL_law 735 = .ok (.iaload, 1) := by decide +kernel
theorem dL_law_736 : decode cL_law 736 = .ok (.invokevirtual 88, 3) := by decide +kernel
theorem dL_law_739 : decode cL_law 739 = .ok (.if_icmp .eq 306, 3) := by decide +kernel
theorem dL_law_742 : decode cL_law 742 = .ok (.iconst 0, 1) := by decide +kernel
theorem dL_law_743 : decode cL_law 743 = .ok (.ireturn, 1) := by decide +kernel
theorem dL_law_744 : decode cL_law 744 = .ok (.aload_n 1, 1) := by decide +kernel
theorem dL_law_745 : decode cL_law 745 = .ok (.aload_n 0, 1) := by decide +kernel
theorem dL_law_746 : decode cL_law 746 = .ok (.iload_n 3, 1) := by decide +kernel
theorem dL_law_747 : decode cL_law 747 = .ok (.iconst 1, 1) := by decide +kernel
theorem dL_law_748 : decode cL_law 748 = .ok (.iadd, 1) := by decide +kernel
theorem dL_law_749 : decode cL_law 749 = .ok (.iaload, 1) := by decide +kernel
theorem dL_law_750 : decode cL_law 750 = .ok (.invokevirtual 89, 3) := by decide +kernel
theorem dL_law_753 : decode cL_law 753 = .ok (.aload_n 2, 1) := by decide +kernel
theorem dL_law_754 : decode cL_law 754 = .ok (.aload_n 0, 1) := by decide +kernel
theorem dL_law_755 : decode cL_law 755 = .ok (.iload_n 3, 1) := by decide +kernel
theorem dL_law_756 : decode cL_law 756 = .ok (.iconst 1, 1) := by decide +kernel
theorem dL_law_757 : decode cL_law 757 = .ok (.iadd, 1) := by decide +kernel
theorem dL_law_758 : decode cL_law 758 = .ok (.iaload, 1) := by decide +kernel
theorem dL_law_759 : decode cL_law 759 = .ok (.invokevirtual 92, 3) := by decide +kernel
theorem dL_law_762 : decode cL_law 762 = .ok (.if_icmp .eq 283, 3) := by decide +kernel
theorem dL_law_765 : decode cL_law 765 = .ok (.iconst 0, 1) := by decide +kernel
theorem dL_law_766 : decode cL_law 766 = .ok (.ireturn, 1) := by decide +kernel
theorem dL_law_767 : decode cL_law 767 = .ok (.aload_n 1, 1) := by decide +kernel
theorem dL_law_768 : decode cL_law 768 = .ok (.aload_n 0, 1) := by decide +kernel
theorem dL_law_769 : decode cL_law 769 = .ok (.iload_n 3, 1) := by decide +kernel
theorem dL_law_770 : decode cL_law 770 = .ok (.iconst 1, 1) := by decide +kernel
theorem dL_law_771 : decode cL_law 771 = .ok (.iadd, 1) := by decide +kernel
theorem dL_law_772 : decode cL_law 772 = .ok (.iaload, 1) := by decide +kernel
theorem dL_law_773 : decode cL_law 773 = .ok (.aload_n 0, 1) := by decide +kernel
theorem dL_law_774 : decode cL_law 774 = .ok (.iload_n 3, 1) := by decide +kernel
theorem dL_law_775 : decode cL_law 775 = .ok (.iconst 2, 1) := by decide +kernel
theorem dL_law_776 : decode cL_law 776 = .ok (.iadd, 1) := by decide +kernel
theorem dL_law_777 : decode cL_law 777 = .ok (.iaload, 1) := by decide +kernel
theorem dL_law_778 : decode cL_law 778 = .ok (.aload_n 0, 1) := by decide +kernel
theorem dL_law_779 : decode cL_law 779 = .ok (.iload_n 3, 1) := by decide +kernel
theorem dL_law_780 : decode cL_law 780 = .ok (.iconst 3, 1) := by decide +kernel
theorem dL_law_781 : decode cL_law 781 = .ok (.iadd, 1) := by decide +kernel
theorem dL_law_782 : decode cL_law 782 = .ok (.iaload, 1) := by decide +kernel
theorem dL_law_783 : decode cL_law 783 = .ok (.invokevirtual 93, 3) := by decide +kernel
theorem dL_law_786 : decode cL_law 786 = .ok (.aload_n 2, 1) := by decide +kernel
theorem dL_law_787 : decode cL_law 787 = .ok (.aload_n 0, 1) := by decide +kernel
theorem dL_law_788 : decode cL_law 788 = .ok (.iload_n 3, 1) := by decide +kernel
theorem dL_law_789 : decode cL_law 789 = .ok (.iconst 1, 1) := by decide +kernel
theorem dL_law_790 : decode cL_law 790 = .ok (.iadd, 1) := by decide +kernel
theorem dL_law_791 : decode cL_law 791 = .ok (.iaload, 1) := by decide +kernel
theorem dL_law_792 : decode cL_law 792 = .ok (.aload_n 0, 1) := by decide +kernel
theorem dL_law_793 : decode cL_law 793 = .ok (.iload_n 3, 1) := by decide +kernel
theorem dL_law_794 : decode cL_law 794 = .ok (.iconst 2, 1) := by decide +kernel
theorem dL_law_795 : decode cL_law 795 = .ok (.iadd, 1) := by decide +kernel
theorem dL_law_796 : decode cL_law 796 = .ok (.iaload, 1) := by decide +kernel
theorem dL_law_797 : decode cL_law 797 = .ok (.aload_n 0, 1) := by decide +kernel
theorem dL_law_798 : decode cL_law 798 = .ok (.iload_n 3, 1) := by decide +kernel
theorem dL_law_799 : decode cL_law 799 = .ok (.iconst 3, 1) := by decide +kernel
theorem dL_law_800 : decode cL_law 800 = .ok (.iadd, 1) := by decide +kernel
theorem dL_law_801 : decode cL_law 801 = .ok (.iaload, 1) := by decide +kernel
theorem dL_law_802 : decode cL_law 802 = .ok (.invokevirtual 96, 3) := by decide +kernel
theorem dL_law_805 : decode cL_law 805 = .ok (.if_icmp .eq 240, 3) := by decide +kernel
theorem dL_law_808 : decode cL_law 808 = .ok (.iconst 0, 1) := by decide +kernel
theorem dL_law_809 : decode cL_law 809 = .ok (.ireturn, 1) := by decide +kernel
theorem dL_law_810 : decode cL_law 810 = .ok (.aload_n 1, 1) := by decide +kernel
theorem dL_law_811 : decode cL_law 811 = .ok (.aload_n 0, 1) := by decide +kernel
theorem dL_law_812 : decode cL_law 812 = .ok (.iload_n 3, 1) := by decide +kernel
theorem dL_law_813 : decode cL_law 813 = .ok (.iconst 1, 1) := by decide +kernel
theorem dL_law_814 : decode cL_law 814 = .ok (.iadd, 1) := by decide +kernel
theorem dL_law_815 : decode cL_law 815 = .ok (.iaload, 1) := by decide +kernel
theorem dL_law_816 : decode cL_law 816 = .ok (.aload_n 0, 1) := by decide +kernel
theorem dL_law_817 : decode cL_law 817 = .ok (.iload_n 3, 1) := by decide +kernel
theorem dL_law_818 : decode cL_law 818 = .ok (.iconst 2, 1) := by decide +kernel
theorem dL_law_819 : decode cL_law 819 = .ok (.iadd, 1) := by decide +kernel
theorem dL_law_820 : decode cL_law 820 = .ok (.iaload, 1) := by decide +kernel
theorem dL_law_821 : decode cL_law 821 = .ok (.aload_n 0, 1) := by decide +kernel
theorem dL_law_822 : decode cL_law 822 = .ok (.iload_n 3, 1) := by decide +kernel
theorem dL_law_823 : decode cL_law 823 = .ok (.iconst 3, 1) := by decide +kernel
theorem dL_law_824 : decode cL_law 824 = .ok (.iadd, 1) := by decide +kernel
theorem dL_law_825 : decode cL_law 825 = .ok (.iaload, 1) := by decide +kernel
theorem dL_law_826 : decode cL_law 826 = .ok (.invokevirtual 97, 3) := by decide +kernel
theorem dL_law_829 : decode cL_law 829 = .ok (.aload_n 2, 1) := by decide +kernel
theorem dL_law_830 : decode cL_law 830 = .ok (.aload_n 0, 1) := by decide +kernel
theorem dL_law_831 : decode cL_law 831 = .ok (.iload_n 3, 1) := by decide +kernel
theorem dL_law_832 : decode cL_law 832 = .ok (.iconst 1, 1) := by decide +kernel
theorem dL_law_833 : decode cL_law 833 = .ok (.iadd, 1) := by decide +kernel
theorem dL_law_834 : decode cL_law 834 = .ok (.iaload, 1) := by decide +kernel
theorem dL_law_835 : decode cL_law 835 = .ok (.aload_n 0, 1) := by decide +kernel
theorem dL_law_836 : decode cL_law 836 = .ok (.iload_n 3, 1) := by decide +kernel
theorem dL_law_837 : decode cL_law 837 = .ok (.iconst 2, 1) := by decide +kernel
theorem dL_law_838 : decode cL_law 838 = .ok (.iadd, 1) := by decide +kernel
theorem dL_law_839 : decode cL_law 839 = .ok (.iaload, 1) := by decide +kernel
theorem dL_law_840 : decode cL_law 840 = .ok (.aload_n 0, 1) := by decide +kernel
theorem dL_law_841 : decode cL_law 841 = .ok (.iload_n 3, 1) := by decide +kernel
theorem dL_law_842 : decode cL_law 842 = .ok (.iconst 3, 1) := by decide +kernel
theorem dL_law_843 : decode cL_law 843 = .ok (.iadd, 1) := by decide +kernel
theorem dL_law_844 : decode cL_law 844 = .ok (.iaload, 1) := by decide +kernel
theorem dL_law_845 : decode cL_law 845 = .ok (.invokevirtual 100, 3) := by decide +kernel
theorem dL_law_848 : decode cL_law 848 = .ok (.lcmp, 1) := by decide +kernel
theorem dL_law_849 : decode cL_law 849 = .ok (.ifCond .eq 196, 3) := by decide +kernel
theorem dL_law_852 : decode cL_law 852 = .ok (.iconst 0, 1) := by decide +kernel
theorem dL_law_853 : decode cL_law 853 = .ok (.ireturn, 1) := by decide +kernel
theorem dL_law_854 : decode cL_law 854 = .ok (.aload_n 1, 1) := by decide +kernel
theorem dL_law_855 : decode cL_law 855 = .ok (.aload_n 0, 1) := by decide +kernel
theorem dL_law_856 : decode cL_law 856 = .ok (.iload_n 3, 1) := by decide +kernel
theorem dL_law_857 : decode cL_law 857 = .ok (.iconst 1, 1) := by decide +kernel
theorem dL_law_858 : decode cL_law 858 = .ok (.iadd, 1) := by decide +kernel
theorem dL_law_859 : decode cL_law 859 = .ok (.iaload, 1) := by decide +kernel
theorem dL_law_860 : decode cL_law 860 = .ok (.aload_n 0, 1) := by decide +kernel
theorem dL_law_861 : decode cL_law 861 = .ok (.iload_n 3, 1) := by decide +kernel
theorem dL_law_862 : decode cL_law 862 = .ok (.iconst 2, 1) := by decide +kernel
theorem dL_law_863 : decode cL_law 863 = .ok (.iadd, 1) := by decide +kernel
theorem dL_law_864 : decode cL_law 864 = .ok (.iaload, 1) := by decide +kernel
theorem dL_law_865 : decode cL_law 865 = .ok (.aload_n 0, 1) := by decide +kernel
theorem dL_law_866 : decode cL_law 866 = .ok (.iload_n 3, 1) := by decide +kernel
theorem dL_law_867 : decode cL_law 867 = .ok (.iconst 3, 1) := by decide +kernel
theorem dL_law_868 : decode cL_law 868 = .ok (.iadd, 1) := by decide +kernel
theorem dL_law_869 : decode cL_law 869 = .ok (.iaload, 1) := by decide +kernel
theorem dL_law_870 : decode cL_law 870 = .ok (.aload_n 0, 1) := by decide +kernel
theorem dL_law_871 : decode cL_law 871 = .ok (.iload_n 3, 1) := by decide +kernel
theorem dL_law_872 : decode cL_law 872 = .ok (.iconst 4, 1) := by decide +kernel
theorem dL_law_873 : decode cL_law 873 = .ok (.iadd, 1) := by decide +kernel
theorem dL_law_874 : decode cL_law 874 = .ok (.iaload, 1) := by decide +kernel
theorem dL_law_875 : decode cL_law 875 = .ok (.aload_n 0, 1) := by decide +kernel
theorem dL_law_876 : decode cL_law 876 = .ok (.iload_n 3, 1) := by decide +kernel
theorem dL_law_877 : decode cL_law 877 = .ok (.iconst 5, 1) := by decide +kernel
theorem dL_law_878 : decode cL_law 878 = .ok (.iadd, 1) := by decide +kernel
theorem dL_law_879 : decode cL_law 879 = .ok (.iaload, 1) := by decide +kernel
theorem dL_law_880 : decode cL_law 880 = .ok (.invokevirtual 101, 3) := by decide +kernel
theorem dL_law_883 : decode cL_law 883 = .ok (.aload_n 2, 1) := by decide +kernel
theorem dL_law_884 : decode cL_law 884 = .ok (.aload_n 0, 1) := by decide +kernel
theorem dL_law_885 : decode cL_law 885 = .ok (.iload_n 3, 1) := by decide +kernel
theorem dL_law_886 : decode cL_law 886 = .ok (.iconst 1, 1) := by decide +kernel
theorem dL_law_887 : decode cL_law 887 = .ok (.iadd, 1) := by decide +kernel
theorem dL_law_888 : decode cL_law 888 = .ok (.iaload, 1) := by decide +kernel
theorem dL_law_889 : decode cL_law 889 = .ok (.aload_n 0, 1) := by decide +kernel
theorem dL_law_890 : decode cL_law 890 = .ok (.iload_n 3, 1) := by decide +kernel
theorem dL_law_891 : decode cL_law 891 = .ok (.iconst 2, 1) := by decide +kernel
theorem dL_law_892 : decode cL_law 892 = .ok (.iadd, 1) := by decide +kernel
theorem dL_law_893 : decode cL_law 893 = .ok (.iaload, 1) := by decide +kernel
theorem dL_law_894 : decode cL_law 894 = .ok (.aload_n 0, 1) := by decide +kernel
theorem dL_law_895 : decode cL_law 895 = .ok (.iload_n 3, 1) := by decide +kernel
theorem dL_law_896 : decode cL_law 896 = .ok (.iconst 3, 1) := by decide +kernel
theorem dL_law_897 : decode cL_law 897 = .ok (.iadd, 1) := by decide +kernel
theorem dL_law_898 : decode cL_law 898 = .ok (.iaload, 1) := by decide +kernel
theorem dL_law_899 : decode cL_law 899 = .ok (.aload_n 0, 1) := by decide +kernel
theorem dL_law_900 : decode cL_law 900 = .ok (.iload_n 3, 1) := by decide +kernel
theorem dL_law_901 : decode cL_law 901 = .ok (.iconst 4, 1) := by decide +kernel
theorem dL_law_902 : decode cL_law 902 = .ok (.iadd, 1) := by decide +kernel
theorem dL_law_903 : decode cL_law 903 = .ok (.iaload, 1) := by decide +kernel
theorem dL_law_904 : decode cL_law 904 = .ok (.aload_n 0, 1) := by decide +kernel
theorem dL_law_905 : decode cL_law 905 = .ok (.iload_n 3, 1) := by decide +kernel
theorem dL_law_906 : decode cL_law 906 = .ok (.iconst 5, 1) := by decide +kernel
theorem dL_law_907 : decode cL_law 907 = .ok (.iadd, 1) := by decide +kernel
theorem dL_law_908 : decode cL_law 908 = .ok (.iaload, 1) := by decide +kernel
theorem dL_law_909 : decode cL_law 909 = .ok (.invokevirtual 104, 3) := by decide +kernel
theorem dL_law_912 : decode cL_law 912 = .ok (.if_icmp .eq 133, 3) := by decide +kernel
theorem dL_law_915 : decode cL_law 915 = .ok (.iconst 0, 1) := by decide +kernel
theorem dL_law_916 : decode cL_law 916 = .ok (.ireturn, 1) := by decide +kernel
theorem dL_law_917 : decode cL_law 917 = .ok (.aload_n 1, 1) := by decide +kernel
theorem dL_law_918 : decode cL_law 918 = .ok (.aload_n 0, 1) := by decide +kernel
theorem dL_law_919 : decode cL_law 919 = .ok (.iload_n 3, 1) := by decide +kernel
theorem dL_law_920 : decode cL_law 920 = .ok (.iconst 1, 1) := by decide +kernel
theorem dL_law_921 : decode cL_law 921 = .ok (.iadd, 1) := by decide +kernel
theorem dL_law_922 : decode cL_law 922 = .ok (.iaload, 1) := by decide +kernel
theorem dL_law_923 : decode cL_law 923 = .ok (.invokevirtual 105, 3) := by decide +kernel
theorem dL_law_926 : decode cL_law 926 = .ok (.aload_n 2, 1) := by decide +kernel
theorem dL_law_927 : decode cL_law 927 = .ok (.aload_n 0, 1) := by decide +kernel
theorem dL_law_928 : decode cL_law 928 = .ok (.iload_n 3, 1) := by decide +kernel
theorem dL_law_929 : decode cL_law 929 = .ok (.iconst 1, 1) := by decide +kernel
theorem dL_law_930 : decode cL_law 930 = .ok (.iadd, 1) := by decide +kernel
theorem dL_law_931 : decode cL_law 931 = .ok (.iaload, 1) := by decide +kernel
theorem dL_law_932 : decode cL_law 932 = .ok (.invokevirtual 108, 3) := by decide +kernel
theorem dL_law_935 : decode cL_law 935 = .ok (.if_icmp .eq 110, 3) := by decide +kernel
theorem dL_law_938 : decode cL_law 938 = .ok (.iconst 0, 1) := by decide +kernel
theorem dL_law_939 : decode cL_law 939 = .ok (.ireturn, 1) := by decide +kernel
theorem dL_law_940 : decode cL_law 940 = .ok (.aload_n 1, 1) := by decide +kernel
theorem dL_law_941 : decode cL_law 941 = .ok (.aload_n 0, 1) := by decide +kernel
theorem dL_law_942 : decode cL_law 942 = .ok (.iload_n 3, 1) := by decide +kernel
theorem dL_law_943 : decode cL_law 943 = .ok (.iconst 1, 1) := by decide +kernel
theorem dL_law_944 : decode cL_law 944 = .ok (.iadd, 1) := by decide +kernel
theorem dL_law_945 : decode cL_law 945 = .ok (.iaload, 1) := by decide +kernel
theorem dL_law_946 : decode cL_law 946 = .ok (.invokevirtual 109, 3) := by decide +kernel
theorem dL_law_949 : decode cL_law 949 = .ok (.aload_n 2, 1) := by decide +kernel
theorem dL_law_950 : decode cL_law 950 = .ok (.aload_n 0, 1) := by decide +kernel
theorem dL_law_951 : decode cL_law 951 = .ok (.iload_n 3, 1) := by decide +kernel
theorem dL_law_952 : decode cL_law 952 = .ok (.iconst 1, 1) := by decide +kernel
theorem dL_law_953 : decode cL_law 953 = .ok (.iadd, 1) := by decide +kernel
theorem dL_law_954 : decode cL_law 954 = .ok (.iaload, 1) := by decide +kernel
theorem dL_law_955 : decode cL_law 955 = .ok (.invokevirtual 112, 3) := by decide +kernel
theorem dL_law_958 : decode cL_law 958 = .ok (.if_icmp .eq 87, 3) := by decide +kernel
theorem dL_law_961 : decode cL_law 961 = .ok (.iconst 0, 1) := by decide +kernel
theorem dL_law_962 : decode cL_law 962 = .ok (.ireturn, 1) := by decide +kernel
theorem dL_law_963 : decode cL_law 963 = .ok (.aload_n 1, 1) := by decide +kernel
theorem dL_law_964 : decode cL_law 964 = .ok (.aload_n 0, 1) := by decide +kernel
theorem dL_law_965 : decode cL_law 965 = .ok (.iload_n 3, 1) := by decide +kernel
theorem dL_law_966 : decode cL_law 966 = .ok (.iconst 1, 1) := by decide +kernel
theorem dL_law_967 : decode cL_law 967 = .ok (.iadd, 1) := by decide +kernel
theorem dL_law_968 : decode cL_law 968 = .ok (.iaload, 1) := by decide +kernel
theorem dL_law_969 : decode cL_law 969 = .ok (.aload_n 0, 1) := by decide +kernel
theorem dL_law_970 : decode cL_law 970 = .ok (.iload_n 3, 1) := by decide +kernel
theorem dL_law_971 : decode cL_law 971 = .ok (.iconst 2, 1) := by decide +kernel
theorem dL_law_972 : decode cL_law 972 = .ok (.iadd, 1) := by decide +kernel
theorem dL_law_973 : decode cL_law 973 = .ok (.iaload, 1) := by decide +kernel
theorem dL_law_974 : decode cL_law 974 = .ok (.invokevirtual 113, 3) := by decide +kernel
theorem dL_law_977 : decode cL_law 977 = .ok (.aload_n 2, 1) := by decide +kernel
theorem dL_law_978 : decode cL_law 978 = .ok (.aload_n 0, 1) := by decide +kernel
theorem dL_law_979 : decode cL_law 979 = .ok (.iload_n 3, 1) := by decide +kernel
theorem dL_law_980 : decode cL_law 980 = .ok (.iconst 1, 1) := by decide +kernel
theorem dL_law_981 : decode cL_law 981 = .ok (.iadd, 1) := by decide +kernel
theorem dL_law_982 : decode cL_law 982 = .ok (.iaload, 1) := by decide +kernel
theorem dL_law_983 : decode cL_law 983 = .ok (.aload_n 0, 1) := by decide +kernel
theorem dL_law_984 : decode cL_law 984 = .ok (.iload_n 3, 1) := by decide +kernel
theorem dL_law_985 : decode cL_law 985 = .ok (.iconst 2, 1) := by decide +kernel
theorem dL_law_986 : decode cL_law 986 = .ok (.iadd, 1) := by decide +kernel
theorem dL_law_987 : decode cL_law 987 = .ok (.iaload, 1) := by decide +kernel
theorem dL_law_988 : decode cL_law 988 = .ok (.invokevirtual 116, 3) := by decide +kernel
theorem dL_law_991 : decode cL_law 991 = .ok (.if_icmp .eq 54, 3) := by decide +kernel
theorem dL_law_994 : decode cL_law 994 = .ok (.iconst 0, 1) := by decide +kernel
theorem dL_law_995 : decode cL_law 995 = .ok (.ireturn, 1) := by decide +kernel
theorem dL_law_996 : decode cL_law 996 = .ok (.aload_n 1, 1) := by decide +kernel
theorem dL_law_997 : decode cL_law 997 = .ok (.invokevirtual 117, 3) := by decide +kernel
theorem dL_law_1000 : decode cL_law 1000 = .ok (.aload_n 2, 1) := by decide +kernel
theorem dL_law_1001 : decode cL_law 1001 = .ok (.invokevirtual 120, 3) := by decide +kernel
theorem dL_law_1004 : decode cL_law 1004 = .ok (.if_icmp .eq 41, 3) := by decide +kernel
theorem dL_law_1007 : decode cL_law 1007 = .ok (.iconst 0, 1) := by decide +kernel
theorem dL_law_1008 : decode cL_law 1008 = .ok (.ireturn, 1) := by decide +kernel
theorem dL_law_1009 : decode cL_law 1009 = .ok (.aload_n 1, 1) := by decide +kernel
theorem dL_law_1010 : decode cL_law 1010 = .ok (.invokevirtual 121, 3) := by decide +kernel
theorem dL_law_1013 : decode cL_law 1013 = .ok (.aload_n 2, 1) := by decide +kernel
theorem dL_law_1014 : decode cL_law 1014 = .ok (.invokevirtual 124, 3) := by decide +kernel
theorem dL_law_1017 : decode cL_law 1017 = .ok (.if_icmp .eq 28, 3) := by decide +kernel
theorem dL_law_1020 : decode cL_law 1020 = .ok (.iconst 0, 1) := by decide +kernel
theorem dL_law_1021 : decode cL_law 1021 = .ok (.ireturn, 1) := by decide +kernel
theorem dL_law_1022 : decode cL_law 1022 = .ok (.aload_n 1, 1) := by decide +kernel
theorem dL_law_1023 : decode cL_law 1023 = .ok (.aload_n 0, 1) := by decide +kernel
theorem dL_law_1024 : decode cL_law 1024 = .ok (.iload_n 3, 1) := by decide +kernel
theorem dL_law_1025 : decode cL_law 1025 = .ok (.iconst 1, 1) := by decide +kernel
theorem dL_law_1026 : decode cL_law 1026 = .ok (.iadd, 1) := by decide +kernel
theorem dL_law_1027 : decode cL_law 1027 = .ok (.iaload, 1) := by decide +kernel
theorem dL_law_1028 : decode cL_law 1028 = .ok (.invokevirtual 125, 3) := by decide +kernel
theorem dL_law_1031 : decode cL_law 1031 = .ok (.aload_n 2, 1) := by decide +kernel
theorem dL_law_1032 : decode cL_law 1032 = .ok (.aload_n 0, 1) := by decide +kernel
theorem dL_law_1033 : decode cL_law 1033 = .ok (.iload_n 3, 1) := by decide +kernel
theorem dL_law_1034 : decode cL_law 1034 = .ok (.iconst 1, 1) := by decide +kernel
theorem dL_law_1035 : decode cL_law 1035 = .ok (.iadd, 1) := by decide +kernel
theorem dL_law_1036 : decode cL_law 1036 = .ok (.iaload, 1) := by decide +kernel
theorem dL_law_1037 : decode cL_law 1037 = .ok (.invokevirtual 128, 3) := by decide +kernel
theorem dL_law_1040 : decode cL_law 1040 = .ok (.if_icmp .eq 5, 3) := by decide +kernel
theorem dL_law_1043 : decode cL_law 1043 = .ok (.iconst 0, 1) := by decide +kernel
theorem dL_law_1044 : decode cL_law 1044 = .ok (.ireturn, 1) := by decide +kernel
theorem dL_law_1045 : decode cL_law 1045 = .ok (.iinc 3 6, 3) := by decide +kernel
theorem dL_law_1048 : decode cL_law 1048 = .ok (.goto (-1030), 3) := by decide +kernel
theorem dL_law_1051 : decode cL_law 1051 = .ok (.iconst 1, 1) := by decide +kernel
theorem dL_law_1052 : decode cL_law 1052 = .ok (.ireturn, 1) := by decide +kernel
abbrev vwCl : List vw_C := [(RX0, TX0, 5), (RX1, TX1, 4), (RX2, TX2, 12), (RX3, TX3, 4), (RX5, TX5, 7), (RX6, TX6, 30)]

